set_option maxHeartbeats 4000000 in
set_option maxRecDepth 100000 in
theorem wk_X6_goesOn (l : Launch) (sp : Sp_X6_goesOn) : Ct_X6_goesOn l := by
  intro place_ code_
  refine Met.ofW (cc := cX6_goesOn) (maxL := 2) (ret := (some .boolean)) (by decide) rfl ?_
  intro p e s m args below meth c s₁ B hml hv0
  obtain ⟨rfl, -⟩ := hv0
  have hx := B.exec
  have hb := B.bytes
  have hr := B.returns
  have hts := atoms_spec (ws := wsX6_goesOn) B.pre
  have hown : s.vm.findClass RX6 = some m.cls := findClass_of_methodNamed B.named
  have hlocks := B.notSynchronized
  have hv := sp place_ code_
  have hl := lv_entry ([.int place_, .int code_]) (n := 2) (Nat.le_of_ble_eq_true rfl)
  rw [lg_entry_eq]
  generalize (lg_sl ([.int place_, .int code_]) ++ List.replicate (2 - (lg_sl ([.int place_, .int code_])).length) Slot.unset).toArray = ls at hl ⊢
  have hl : lv_has ls 2 [(0, .int place_), (1, .int code_)] := hl
  refine W_gen (fun R Z H locs hR hZ hH hlo => ?_)
  have hRf : R.frames = 0 := by rw [hR]; rfl
  have hRl : R.locals = 0 := by rw [hR]; rfl
  have hRc : R.cells = 0 := by rw [hR]; rfl
  have hRs : R.slots = 0 := by rw [hR]; rfl
  have hS : va_S (fun _ => False) s.heap H locs := by rw [hH, hlo]; exact va_S.rf
  obtain ⟨Q, hQ⟩ : ∃ q : Int32 → Prop, q = (fun r => r = fn_X6_goesOn place_ code_) := ⟨_, rfl⟩
  rw [← hQ] at hv
  refine lv_iload_n hx hb dX6_goesOn_0 rfl (lv_at hl 0 rfl) ?_
  refine lv_if_ne (tgt := 16) hx hb dX6_goesOn_1 (by decide) (fun c15 => ?_) (fun c15 => ?_)
  · have hv := hv.1 c15
    refine lv_iload_n hx hb dX6_goesOn_16 rfl (lv_at hl 0 rfl) ?_
    refine lv_bipush (v := 24) hx hb dX6_goesOn_17 (by decide) ?_
    refine lv_icmp_le (tgt := 24) hx hb dX6_goesOn_19 (by decide) (fun c13 => ?_) (fun c13 => ?_)
    · have hv := hv.1 c13
      refine lv_iload_n hx hb dX6_goesOn_24 rfl (lv_at hl 0 rfl) ?_
      refine lv_iconst (v := 4) hx hb dX6_goesOn_25 (by decide) ?_
      obtain ⟨hne, hv⟩ := hv
      refine lv_irem hx hb dX6_goesOn_26 hne ?_
      by_cases c3 : (place_ - place_ / 4 * 4) = 1
      · have hv := hv.1 c3
        refine lv_tableIn (tgt := 52) hx hb dX6_goesOn_27 (by rw [c3]; decide) (by rw [c3]; decide) (by first | (rw [c3]; done) | (rw [c3]; rfl)) (by decide) ?_
        refine lv_iload_n hx hb dX6_goesOn_52 rfl (lv_at hl 1 rfl) ?_
        refine lv_bipush (v := 59) hx hb dX6_goesOn_53 (by decide) ?_
        refine lv_icmp_ne (tgt := 62) hx hb dX6_goesOn_55 (by decide) (fun c2 => ?_) (fun c2 => ?_)
        · have hv := hv.1 c2
          refine lv_iconst (v := 0) hx hb dX6_goesOn_62 (by decide) ?_
          rw [hZ]; rw [hQ] at hv
          exact W.zret (v := 0) hx hb hr rfl (fun t ht hW => ⟨⟨0, (), rfl, hv, trivial⟩, hS.F ht⟩) hS.2.2 dX6_goesOn_63
        · have hv := hv.2 c2
          refine lv_iconst (v := 1) hx hb dX6_goesOn_58 (by decide) ?_
          refine lv_goto (tgt := 63) hx hb dX6_goesOn_59 (by decide) ?_
          rw [hZ]; rw [hQ] at hv
          exact W.zret (v := 1) hx hb hr rfl (fun t ht hW => ⟨⟨1, (), rfl, hv, trivial⟩, hS.F ht⟩) hS.2.2 dX6_goesOn_63
      · have hv := hv.2 c3
        by_cases c7 : (place_ - place_ / 4 * 4) = 2
        · have hv := hv.1 c7
          refine lv_tableIn (tgt := 64) hx hb dX6_goesOn_27 (by rw [c7]; decide) (by rw [c7]; decide) (by first | (rw [c7]; done) | (rw [c7]; rfl)) (by decide) ?_
          refine lv_iload_n hx hb dX6_goesOn_64 rfl (lv_at hl 1 rfl) ?_
          refine lv_bipush (v := 104) hx hb dX6_goesOn_65 (by decide) ?_
          refine lv_icmp_eq (tgt := 82) hx hb dX6_goesOn_67 (by decide) (fun c6 => ?_) (fun c6 => ?_)
          · have hv := hv.1 c6
            refine lv_iconst (v := 1) hx hb dX6_goesOn_82 (by decide) ?_
            refine lv_goto (tgt := 87) hx hb dX6_goesOn_83 (by decide) ?_
            rw [hZ]; rw [hQ] at hv
            exact W.zret (v := 1) hx hb hr rfl (fun t ht hW => ⟨⟨1, (), rfl, hv, trivial⟩, hS.F ht⟩) hS.2.2 dX6_goesOn_87
          · have hv := hv.2 c6
            refine lv_iload_n hx hb dX6_goesOn_70 rfl (lv_at hl 1 rfl) ?_
            refine lv_bipush (v := 98) hx hb dX6_goesOn_71 (by decide) ?_
            refine lv_icmp_eq (tgt := 82) hx hb dX6_goesOn_73 (by decide) (fun c5 => ?_) (fun c5 => ?_)
            · have hv := hv.1 c5
              refine lv_iconst (v := 1) hx hb dX6_goesOn_82 (by decide) ?_
              refine lv_goto (tgt := 87) hx hb dX6_goesOn_83 (by decide) ?_
              rw [hZ]; rw [hQ] at hv
              exact W.zret (v := 1) hx hb hr rfl (fun t ht hW => ⟨⟨1, (), rfl, hv, trivial⟩, hS.F ht⟩) hS.2.2 dX6_goesOn_87
            · have hv := hv.2 c5
              refine lv_iload_n hx hb dX6_goesOn_76 rfl (lv_at hl 1 rfl) ?_
              refine lv_bipush (v := 103) hx hb dX6_goesOn_77 (by decide) ?_
              refine lv_icmp_ne (tgt := 86) hx hb dX6_goesOn_79 (by decide) (fun c4 => ?_) (fun c4 => ?_)
              · have hv := hv.1 c4
                refine lv_iconst (v := 0) hx hb dX6_goesOn_86 (by decide) ?_
                rw [hZ]; rw [hQ] at hv
                exact W.zret (v := 0) hx hb hr rfl (fun t ht hW => ⟨⟨0, (), rfl, hv, trivial⟩, hS.F ht⟩) hS.2.2 dX6_goesOn_87
              · have hv := hv.2 c4
                refine lv_iconst (v := 1) hx hb dX6_goesOn_82 (by decide) ?_
                refine lv_goto (tgt := 87) hx hb dX6_goesOn_83 (by decide) ?_
                rw [hZ]; rw [hQ] at hv
                exact W.zret (v := 1) hx hb hr rfl (fun t ht hW => ⟨⟨1, (), rfl, hv, trivial⟩, hS.F ht⟩) hS.2.2 dX6_goesOn_87
        · have hv := hv.2 c7
          by_cases c10 : (place_ - place_ / 4 * 4) = 3
          · have hv := hv.1 c10
            refine lv_tableIn (tgt := 88) hx hb dX6_goesOn_27 (by rw [c10]; decide) (by rw [c10]; decide) (by first | (rw [c10]; done) | (rw [c10]; rfl)) (by decide) ?_
            refine lv_iload_n hx hb dX6_goesOn_88 rfl (lv_at hl 1 rfl) ?_
            refine lv_bipush (v := 49) hx hb dX6_goesOn_89 (by decide) ?_
            refine lv_icmp_lt (tgt := 104) hx hb dX6_goesOn_91 (by decide) (fun c9 => ?_) (fun c9 => ?_)
            · have hv := hv.1 c9
              refine lv_iconst (v := 0) hx hb dX6_goesOn_104 (by decide) ?_
              rw [hZ]; rw [hQ] at hv
              exact W.zret (v := 0) hx hb hr rfl (fun t ht hW => ⟨⟨0, (), rfl, hv, trivial⟩, hS.F ht⟩) hS.2.2 dX6_goesOn_105
            · have hv := hv.2 c9
              refine lv_iload_n hx hb dX6_goesOn_94 rfl (lv_at hl 1 rfl) ?_
              refine lv_bipush (v := 53) hx hb dX6_goesOn_95 (by decide) ?_
              refine lv_icmp_gt (tgt := 104) hx hb dX6_goesOn_97 (by decide) (fun c8 => ?_) (fun c8 => ?_)
              · have hv := hv.1 c8
                refine lv_iconst (v := 0) hx hb dX6_goesOn_104 (by decide) ?_
                rw [hZ]; rw [hQ] at hv
                exact W.zret (v := 0) hx hb hr rfl (fun t ht hW => ⟨⟨0, (), rfl, hv, trivial⟩, hS.F ht⟩) hS.2.2 dX6_goesOn_105
              · have hv := hv.2 c8
                refine lv_iconst (v := 1) hx hb dX6_goesOn_100 (by decide) ?_
                refine lv_goto (tgt := 105) hx hb dX6_goesOn_101 (by decide) ?_
                rw [hZ]; rw [hQ] at hv
                exact W.zret (v := 1) hx hb hr rfl (fun t ht hW => ⟨⟨1, (), rfl, hv, trivial⟩, hS.F ht⟩) hS.2.2 dX6_goesOn_105
          · have hv := hv.2 c10
            refine lv_tableOut (tgt := 106) hx hb dX6_goesOn_27 (sw_out (lo := 1) (hi := 3) (place_ - place_ / 4 * 4) (fun k h1 h2 hk => by
              have h3 : k = 1 ∨ k = 2 ∨ k = 3 := by omega
              rcases h3 with rfl | rfl | rfl
              · exact c3 (sw_k hk (by decide))
              · exact c7 (sw_k hk (by decide))
              · exact c10 (sw_k hk (by decide)))) (by decide) ?_
            refine lv_iload_n hx hb dX6_goesOn_106 rfl (lv_at hl 1 rfl) ?_
            refine lv_bipush (v := 48) hx hb dX6_goesOn_107 (by decide) ?_
            refine lv_icmp_lt (tgt := 122) hx hb dX6_goesOn_109 (by decide) (fun c12 => ?_) (fun c12 => ?_)
            · have hv := hv.1 c12
              refine lv_iconst (v := 0) hx hb dX6_goesOn_122 (by decide) ?_
              rw [hZ]; rw [hQ] at hv
              exact W.zret (v := 0) hx hb hr rfl (fun t ht hW => ⟨⟨0, (), rfl, hv, trivial⟩, hS.F ht⟩) hS.2.2 dX6_goesOn_123
            · have hv := hv.2 c12
              refine lv_iload_n hx hb dX6_goesOn_112 rfl (lv_at hl 1 rfl) ?_
              refine lv_bipush (v := 50) hx hb dX6_goesOn_113 (by decide) ?_
              refine lv_icmp_gt (tgt := 122) hx hb dX6_goesOn_115 (by decide) (fun c11 => ?_) (fun c11 => ?_)
              · have hv := hv.1 c11
                refine lv_iconst (v := 0) hx hb dX6_goesOn_122 (by decide) ?_
                rw [hZ]; rw [hQ] at hv
                exact W.zret (v := 0) hx hb hr rfl (fun t ht hW => ⟨⟨0, (), rfl, hv, trivial⟩, hS.F ht⟩) hS.2.2 dX6_goesOn_123
              · have hv := hv.2 c11
                refine lv_iconst (v := 1) hx hb dX6_goesOn_118 (by decide) ?_
                refine lv_goto (tgt := 123) hx hb dX6_goesOn_119 (by decide) ?_
                rw [hZ]; rw [hQ] at hv
                exact W.zret (v := 1) hx hb hr rfl (fun t ht hW => ⟨⟨1, (), rfl, hv, trivial⟩, hS.F ht⟩) hS.2.2 dX6_goesOn_123
    · have hv := hv.2 c13
      refine lv_iconst (v := 0) hx hb dX6_goesOn_22 (by decide) ?_
      rw [hZ]; rw [hQ] at hv
      exact W.zret (v := 0) hx hb hr rfl (fun t ht hW => ⟨⟨0, (), rfl, hv, trivial⟩, hS.F ht⟩) hS.2.2 dX6_goesOn_23
  · have hv := hv.2 c15
    refine lv_iload_n hx hb dX6_goesOn_4 rfl (lv_at hl 1 rfl) ?_
    refine lv_bipush (v := 115) hx hb dX6_goesOn_5 (by decide) ?_
    refine lv_icmp_ne (tgt := 14) hx hb dX6_goesOn_7 (by decide) (fun c14 => ?_) (fun c14 => ?_)
    · have hv := hv.1 c14
      refine lv_iconst (v := 0) hx hb dX6_goesOn_14 (by decide) ?_
      rw [hZ]; rw [hQ] at hv
      exact W.zret (v := 0) hx hb hr rfl (fun t ht hW => ⟨⟨0, (), rfl, hv, trivial⟩, hS.F ht⟩) hS.2.2 dX6_goesOn_15
    · have hv := hv.2 c14
      refine lv_iconst (v := 1) hx hb dX6_goesOn_10 (by decide) ?_
      refine lv_goto (tgt := 15) hx hb dX6_goesOn_11 (by decide) ?_
      rw [hZ]; rw [hQ] at hv
      exact W.zret (v := 1) hx hb hr rfl (fun t ht hW => ⟨⟨1, (), rfl, hv, trivial⟩, hS.F ht⟩) hS.2.2 dX6_goesOn_15
set_option maxHeartbeats 4000000 in
set_option maxRecDepth 100000 in
theorem wk_X6_isEmpty (l : Launch) (sp : Sp_X6_isEmpty) : Ct_X6_isEmpty l := by
  intro D cy ad A   σ0  hpre
  refine Met.ofW (cc := cX6_isEmpty) (maxL := 1) (ret := (some .boolean)) (by decide) rfl ?_
  intro p e s m args below meth c s₁ B hml hv0
  obtain ⟨rfl, hP, hK, hD, hN⟩ := hv0
  have hx := B.exec
  have hb := B.bytes
  have hr := B.returns
  have hts := atoms_spec (ws := wsX6_isEmpty) B.pre
  have hown : s.vm.findClass RX6 = some m.cls := findClass_of_methodNamed B.named
  have hlocks := B.notSynchronized
  have hv := sp   σ0 hpre
  have hl := lv_entry ([.ref (ad 11)]) (n := 1) (Nat.le_of_ble_eq_true rfl)
  rw [lg_entry_eq]
  generalize (lg_sl ([.ref (ad 11)]) ++ List.replicate (1 - (lg_sl ([.ref (ad 11)])).length) Slot.unset).toArray = ls at hl ⊢
  have hl : lv_has ls 1 [(0, .ref (ad 11))] := hl
  refine W_gen (fun R Z H locs hR hZ hH hlo => ?_)
  have hRf : R.frames = 0 := by rw [hR]; rfl
  have hRl : R.locals = 0 := by rw [hR]; rfl
  have hRc : R.cells = 0 := by rw [hR]; rfl
  have hRs : R.slots = 0 := by rw [hR]; rfl
  have hS : va_S A s.heap H locs := by rw [hH, hlo]; exact va_S.rf
  rw [← hH] at hP
  obtain ⟨Q, hQ⟩ : ∃ q : Int32 → Prop, q = (fun r => r = fn_X6_isEmpty  σ0) := ⟨_, rfl⟩
  rw [← hQ] at hv
  have hinX6 : ∀ w ∈ wsX60, w ∈ wsX6_isEmpty := by decide +kernel
  refine lv_aload_n hx hb dX6_isEmpty_0 rfl (lv_at hl 0 rfl) ?_
  refine va_get (ci := 6) (v := .int (rdI σ0 2)) (C := RX6) (T := TX6) (N := 8) hx hb hts hinX6 hown hK hP 11 (wC_11 cy ad σ0) rfl 5 (by decide) (hts (.fieldLink RX6 51 "TaleBans$Steppe" "persons" "I") (List.mem_of_getElem? (i := 1) rfl)) (fun x h => h) rfl dX6_isEmpty_1 ?_
  refine lv_if_ne (tgt := 11) hx hb dX6_isEmpty_4 (by decide) (fun c1 => ?_) (fun c1 => ?_)
  · have hv := hv.1 c1
    refine lv_iconst (v := 0) hx hb dX6_isEmpty_11 (by decide) ?_
    rw [hZ]; rw [hQ] at hv
    exact W.zret (v := 0) hx hb hr rfl (fun t ht hW => ⟨⟨0, (), rfl, hv, (P_of ht hP)⟩, hS.F ht⟩) hS.2.2 dX6_isEmpty_12
  · have hv := hv.2 c1
    refine lv_iconst (v := 1) hx hb dX6_isEmpty_7 (by decide) ?_
    refine lv_goto (tgt := 12) hx hb dX6_isEmpty_8 (by decide) ?_
    rw [hZ]; rw [hQ] at hv
    exact W.zret (v := 1) hx hb hr rfl (fun t ht hW => ⟨⟨1, (), rfl, hv, (P_of ht hP)⟩, hS.F ht⟩) hS.2.2 dX6_isEmpty_12
set_option maxHeartbeats 4000000 in
set_option maxRecDepth 100000 in
theorem wk_X6_firstFault (l : Launch) (h_X5_at : Ct_X5_at l) (h_X6_goesOn : Ct_X6_goesOn l) (sp : Sp_X6_firstFault) : Ct_X6_firstFault l := by
  intro D cy ad A j_ fr_ n_ Fg Ng σ0 hj_j_ hpre
  refine Met.ofW (cc := cX6_firstFault) (maxL := 4) (ret := (some .int)) (by decide) rfl ?_
  intro p e s m args below meth c s₁ B hml hv0
  obtain ⟨rfl, hP, hK, hD, hN⟩ := hv0
  have hx := B.exec
  have hb := B.bytes
  have hr := B.returns
  have hts := atoms_spec (ws := wsX6_firstFault) B.pre
  have hown : s.vm.findClass RX6 = some m.cls := findClass_of_methodNamed B.named
  have hlocks := B.notSynchronized
  have hv := sp j_ fr_ n_ Fg Ng σ0 hpre
  have hl := lv_entry ([.ref (ad (2 + 2 * j_)), .int fr_, .int n_]) (n := 4) (Nat.le_of_ble_eq_true rfl)
  rw [lg_entry_eq]
  generalize (lg_sl ([.ref (ad (2 + 2 * j_)), .int fr_, .int n_]) ++ List.replicate (4 - (lg_sl ([.ref (ad (2 + 2 * j_)), .int fr_, .int n_])).length) Slot.unset).toArray = ls at hl ⊢
  have hl : lv_has ls 4 [(0, .ref (ad (2 + 2 * j_))), (1, .int fr_), (2, .int n_)] := hl
  refine W_gen (fun R Z H locs hR hZ hH hlo => ?_)
  have hRf : R.frames = 3 := by rw [hR]; rfl
  have hRl : R.locals = 63 := by rw [hR]; rfl
  have hRc : R.cells = 0 := by rw [hR]; rfl
  have hRs : R.slots = 0 := by rw [hR]; rfl
  have hS : va_S A s.heap H locs := by rw [hH, hlo]; exact va_S.rf
  rw [← hH] at hP
  obtain ⟨Q, hQ⟩ : ∃ q : Int32 → Prop, q = (fun r => post_X6_firstFault j_ fr_ n_ Fg Ng σ0 r) := ⟨_, rfl⟩
  rw [← hQ] at hv
  refine lv_iconst (v := 0) hx hb dX6_firstFault_0 (by decide) ?_
  refine lv_istore_n (lv' := [(3, .int 0), (0, .ref (ad (2 + 2 * j_))), (1, .int fr_), (2, .int n_)]) hx hb dX6_firstFault_1 rfl hl (by decide) rfl (fun ls hl => ?_)
  obtain ⟨n2, hv⟩ := hv
  have lp2 : ∀ (nn2 : Nat) (x1 : Int32) (H : Heap) (locs : List Loc) (ls : Array Slot), vl_X6_firstFault_2 j_ fr_ n_ σ0 Q nn2 x1 → va_P D vwCl (wC cy ad σ0) H → va_D A (wC cy ad σ0) → va_S A s.heap H locs → lv_has ls 4 [(0, .ref (ad (2 + 2 * j_))), (1, .int fr_), (2, .int n_), (3, .int x1)] → W p l e R s m ([.ref (ad (2 + 2 * j_)), .int fr_, .int n_] : List Value).toArray  below meth c H locs 0 0 Z (F0 m 2 ls []) := by
    intro nn2
    induction nn2 with
    | zero => intro x1 H locs ls hv; exact absurd hv id
    | succ mm2 ih2 =>
      intro x1 H locs ls hv hP hD hS hl
      refine lv_iload_n hx hb dX6_firstFault_2 rfl (lv_at hl 3 rfl) ?_
      refine lv_iload_n hx hb dX6_firstFault_3 rfl (lv_at hl 2 rfl) ?_
      refine lv_icmp_ge (tgt := 29) hx hb dX6_firstFault_4 (by decide) (fun c9 => ?_) (fun c9 => ?_)
      · have hv := hv.1 c9
        refine lv_iload_n hx hb dX6_firstFault_29 rfl (lv_at hl 2 rfl) ?_
        refine lv_iconst (v := 4) hx hb dX6_firstFault_30 (by decide) ?_
        obtain ⟨hne, hv⟩ := hv
        refine lv_irem hx hb dX6_firstFault_31 hne ?_
        refine lv_iconst (v := 1) hx hb dX6_firstFault_32 (by decide) ?_
        obtain ⟨P2, hv, hvr⟩ := hv
        have jn3 : ∀ (b4 : Int32) (H : Heap) (locs : List Loc) (ls : Array Slot), P2 b4 → va_P D vwCl (wC cy ad σ0) H → va_S A s.heap H locs → lv_has ls 4 [(0, .ref (ad (2 + 2 * j_))), (1, .int fr_), (2, .int n_), (3, .int x1)] → W p l e R s m ([.ref (ad (2 + 2 * j_)), .int fr_, .int n_] : List Value).toArray below meth c H locs 0 0 Z (F0 m 47 ls [.int b4]) := by
          intro b4 H locs ls hv hP hS hl
          have hv := hvr b4 hv
          refine lv_istore_n (lv' := [(3, .int b4), (0, .ref (ad (2 + 2 * j_))), (1, .int fr_), (2, .int n_)]) hx hb dX6_firstFault_47 rfl hl (by decide) rfl (fun ls hl => ?_)
          refine lv_iload_n hx hb dX6_firstFault_48 rfl (lv_at hl 0 rfl) ?_
          refine lv_if_eq (tgt := 57) hx hb dX6_firstFault_49 (by decide) (fun c7 => ?_) (fun c7 => ?_)
          · have hv := hv.1 c7
            refine lv_iload_n hx hb dX6_firstFault_57 rfl (lv_at hl 3 rfl) ?_
            rw [hZ]; rw [hQ] at hv
            exact W.iret (v := n_) hx hb hr (fun t ht hW => ⟨⟨n_, (), rfl, hv, (P_of ht hP)⟩, hS.F ht⟩) hS.2.2 dX6_firstFault_58
          · have hv := hv.2 c7
            refine lv_bipush (v := (-9)) hx hb dX6_firstFault_52 (by decide) ?_
            refine lv_goto (tgt := 58) hx hb dX6_firstFault_54 (by decide) ?_
            rw [hZ]; rw [hQ] at hv
            exact W.iret (v := (-9)) hx hb hr (fun t ht hW => ⟨⟨(-9), (), rfl, hv, (P_of ht hP)⟩, hS.F ht⟩) hS.2.2 dX6_firstFault_58
        refine lv_icmp_ne (tgt := 46) hx hb dX6_firstFault_33 (by decide) (fun c6 => ?_) (fun c6 => ?_)
        · have hv := hv.1 c6
          refine lv_iconst (v := 0) hx hb dX6_firstFault_46 (by decide) ?_
          exact jn3 0 _ _ _ hv hP hS hl
        · have hv := hv.2 c6
          refine lv_iload_n hx hb dX6_firstFault_36 rfl (lv_at hl 2 rfl) ?_
          refine lv_bipush (v := 8) hx hb dX6_firstFault_37 (by decide) ?_
          refine lv_icmp_le (tgt := 46) hx hb dX6_firstFault_39 (by decide) (fun c5 => ?_) (fun c5 => ?_)
          · have hv := hv.1 c5
            refine lv_iconst (v := 0) hx hb dX6_firstFault_46 (by decide) ?_
            exact jn3 0 _ _ _ hv hP hS hl
          · have hv := hv.2 c5
            refine lv_iconst (v := 1) hx hb dX6_firstFault_42 (by decide) ?_
            refine lv_goto (tgt := 47) hx hb dX6_firstFault_43 (by decide) ?_
            exact jn3 1 _ _ _ hv hP hS hl
      · have hv := hv.2 c9
        refine lv_iload_n hx hb dX6_firstFault_7 rfl (lv_at hl 3 rfl) ?_
        refine lv_aload_n hx hb dX6_firstFault_8 rfl (lv_at hl 0 rfl) ?_
        refine lv_iload_n hx hb dX6_firstFault_9 rfl (lv_at hl 1 rfl) ?_
        refine lv_iload_n hx hb dX6_firstFault_10 rfl (lv_at hl 3 rfl) ?_
        refine lv_iadd hx hb dX6_firstFault_11 ?_
        obtain ⟨hp, hv⟩ := hv
        refine k_read_i (w := wC cy ad) (va_runVN (As := [.int (fr_ + x1)]) (rest := [.int x1]) ⟨hx, hb, hml, hown, hts⟩ (h_X5_at D cy ad A j_ (fr_ + x1) σ0 hj_j_ hp) ⟨va_cnB 1 hts gX6_firstFault_X5_at_n35 rfl rfl rfl (nwm_26 hN) (hts (.initialized RX5) (List.mem_of_getElem? (i := 2) rfl)) (by decide +kernel) ⟨le_R hRf (Nat.le_of_ble_eq_true rfl), le_R hRl (Nat.le_of_ble_eq_true rfl)⟩, (hts (.instanceMethod yX5_at) (List.mem_of_getElem? (i := 1) rfl)), (hts (.selects RX5 yX5_at yX5_at) (List.mem_of_getElem? (i := 3) rfl))⟩ ⟨(fun a U g mk q => ⟨q.1, q.2.blind⟩), va_recv hK hP (ci := 5) (q0 := (2 + 2 * j_)) rfl (wC_sh cy ad σ0 hj_j_), (fun U hU hW => ⟨rfl, WdC.pre hP hK hD hN hU hW⟩)⟩ rfl rfl hl.1 rfl (lv_room (Nat.le_of_ble_eq_true rfl)) dX6_firstFault_12 ⟨le_R hRc (Nat.le_refl 0), le_R hRs (Nat.le_refl 0)⟩) hS (fun r H locs hr1 hP hS => ?_)
        subst hr1
        refine k_pure_i (va_runS (As := [.int x1, .int (fn_X5_at j_ (fr_ + x1) σ0)]) (rest := []) ⟨hx, hb, hml, hown, hts⟩ (h_X6_goesOn x1 (fn_X5_at j_ (fr_ + x1) σ0)) (va_cwS 2 hts gX6_firstFault_X6_goesOn rfl rfl rfl (by decide +kernel) ⟨le_R hRf (Nat.le_of_ble_eq_true rfl), le_R hRl (Nat.le_of_ble_eq_true rfl)⟩) ⟨(fun a U g mk q => ⟨q.1, trivial⟩), (fun U hU hW => ⟨rfl, trivial⟩)⟩ rfl rfl hl.1 rfl (lv_room (Nat.le_of_ble_eq_true rfl)) dX6_firstFault_15 ⟨le_R hRc (Nat.le_refl 0), le_R hRs (Nat.le_refl 0)⟩) hS hP (fun r H locs hr1 hP hS => ?_)
        subst hr1
        refine lv_if_ne (tgt := 23) hx hb dX6_firstFault_18 (by decide) (fun c8 => ?_) (fun c8 => ?_)
        · have hv := hv.1 c8
          refine lv_iinc (v := (x1 + 1)) (lv' := [(3, .int (x1 + 1)), (0, .ref (ad (2 + 2 * j_))), (1, .int fr_), (2, .int n_)]) hx hb dX6_firstFault_23 hl (k := 3) rfl rfl (by decide) rfl (fun ls hl => ?_)
          refine lv_goto (tgt := 2) hx hb dX6_firstFault_26 (by decide) ?_
          exact ih2 (x1 + 1) _ _ _ hv hP hD hS (lv_sub hl [1, 2, 3, 0] rfl)
        · have hv := hv.2 c8
          refine lv_iload_n hx hb dX6_firstFault_21 rfl (lv_at hl 3 rfl) ?_
          rw [hZ]; rw [hQ] at hv
          exact W.iret (v := x1) hx hb hr (fun t ht hW => ⟨⟨x1, (), rfl, hv, (P_of ht hP)⟩, hS.F ht⟩) hS.2.2 dX6_firstFault_22
  exact lp2 n2 0 _ _ _ hv hP hD hS (lv_sub hl [1, 2, 3, 0] rfl)
set_option maxHeartbeats 4000000 in
set_option maxRecDepth 100000 in
theorem wk_X6_firstUnmet (l : Launch) (h_X3_at : Ct_X3_at l) (h_X8_isIn : Ct_X8_isIn l) (sp : Sp_X6_firstUnmet) : Ct_X6_firstUnmet l := by
  intro D cy ad A banned_ ag mg σ0  hpre
  refine Met.ofW (cc := cX6_firstUnmet) (maxL := 3) (ret := (some .int)) (by decide) rfl ?_
  intro p e s m args below meth c s₁ B hml hv0
  obtain ⟨rfl, hP, hK, hD, hN⟩ := hv0
  have hx := B.exec
  have hb := B.bytes
  have hr := B.returns
  have hts := atoms_spec (ws := wsX6_firstUnmet) B.pre
  have hown : s.vm.findClass RX6 = some m.cls := findClass_of_methodNamed B.named
  have hlocks := B.notSynchronized
  have hv := sp banned_ ag mg σ0 hpre
  have hl := lv_entry ([.ref (ad 11), .int banned_]) (n := 3) (Nat.le_of_ble_eq_true rfl)
  rw [lg_entry_eq]
  generalize (lg_sl ([.ref (ad 11), .int banned_]) ++ List.replicate (3 - (lg_sl ([.ref (ad 11), .int banned_])).length) Slot.unset).toArray = ls at hl ⊢
  have hl : lv_has ls 3 [(0, .ref (ad 11)), (1, .int banned_)] := hl
  refine W_gen (fun R Z H locs hR hZ hH hlo => ?_)
  have hRf : R.frames = 2 := by rw [hR]; rfl
  have hRl : R.locals = 43 := by rw [hR]; rfl
  have hRc : R.cells = 0 := by rw [hR]; rfl
  have hRs : R.slots = 0 := by rw [hR]; rfl
  have hS : va_S A s.heap H locs := by rw [hH, hlo]; exact va_S.rf
  rw [← hH] at hP
  obtain ⟨Q, hQ⟩ : ∃ q : Int32 → Prop, q = (fun r => post_X6_firstUnmet banned_ ag mg σ0 r) := ⟨_, rfl⟩
  rw [← hQ] at hv
  have hinX3 : ∀ w ∈ wsX30, w ∈ wsX6_firstUnmet := by decide +kernel
  have hinX6 : ∀ w ∈ wsX60, w ∈ wsX6_firstUnmet := by decide +kernel
  refine lv_iconst (v := 0) hx hb dX6_firstUnmet_0 (by decide) ?_
  refine lv_istore_n (lv' := [(2, .int 0), (0, .ref (ad 11)), (1, .int banned_)]) hx hb dX6_firstUnmet_1 rfl hl (by decide) rfl (fun ls hl => ?_)
  obtain ⟨n2, hv⟩ := hv
  have lp2 : ∀ (nn2 : Nat) (x1 : Int32) (H : Heap) (locs : List Loc) (ls : Array Slot), vl_X6_firstUnmet_2 banned_ σ0 Q nn2 x1 → va_P D vwCl (wC cy ad σ0) H → va_D A (wC cy ad σ0) → va_S A s.heap H locs → lv_has ls 3 [(0, .ref (ad 11)), (1, .int banned_), (2, .int x1)] → W p l e R s m ([.ref (ad 11), .int banned_] : List Value).toArray  below meth c H locs 0 0 Z (F0 m 2 ls []) := by
    intro nn2
    induction nn2 with
    | zero => intro x1 H locs ls hv; exact absurd hv id
    | succ mm2 ih2 =>
      intro x1 H locs ls hv hP hD hS hl
      refine lv_iload_n hx hb dX6_firstUnmet_2 rfl (lv_at hl 2 rfl) ?_
      refine lv_aload_n hx hb dX6_firstUnmet_3 rfl (lv_at hl 0 rfl) ?_
      refine va_get (ci := 6) (v := .ref (ad (17))) (C := RX6) (T := TX6) (N := 8) hx hb hts hinX6 hown hK hP 11 (wC_11 cy ad σ0) rfl 3 (by decide) (hts (.fieldLink RX6 29 "TaleBans$Steppe" "needs" "LTaleBans$Ledger;") (List.mem_of_getElem? (i := 1) rfl)) (fun x h => h) rfl dX6_firstUnmet_4 ?_
      refine va_getN (ci := 3) (v := .int (rdI σ0 7)) (C := RX3) (T := TX3) (N := 3) hx hb hts hinX3 hown hK hP 17 (wC_17 cy ad σ0) rfl 2 (by decide) (nw_2 hN) (fun x h => h) rfl dX6_firstUnmet_7 ?_
      refine lv_icmp_ge (tgt := 53) hx hb dX6_firstUnmet_10 (by decide) (fun c4 => ?_) (fun c4 => ?_)
      · have hv := hv.1 c4
        refine lv_bipush (v := (-9)) hx hb dX6_firstUnmet_53 (by decide) ?_
        rw [hZ]; rw [hQ] at hv
        exact W.iret (v := (-9)) hx hb hr (fun t ht hW => ⟨⟨(-9), (), rfl, hv, (P_of ht hP)⟩, hS.F ht⟩) hS.2.2 dX6_firstUnmet_55
      · have hv := hv.2 c4
        refine lv_aload_n hx hb dX6_firstUnmet_13 rfl (lv_at hl 0 rfl) ?_
        refine va_get (ci := 6) (v := .ref (ad (17))) (C := RX6) (T := TX6) (N := 8) hx hb hts hinX6 hown hK hP 11 (wC_11 cy ad σ0) rfl 3 (by decide) (hts (.fieldLink RX6 29 "TaleBans$Steppe" "needs" "LTaleBans$Ledger;") (List.mem_of_getElem? (i := 1) rfl)) (fun x h => h) rfl dX6_firstUnmet_14 ?_
        refine lv_iload_n hx hb dX6_firstUnmet_17 rfl (lv_at hl 2 rfl) ?_
        refine lv_iconst (v := 0) hx hb dX6_firstUnmet_18 (by decide) ?_
        obtain ⟨hp, hv⟩ := hv
        refine k_read_i (w := wC cy ad) (va_runVN (As := [.int x1, .int 0]) (rest := []) ⟨hx, hb, hml, hown, hts⟩ (h_X3_at D cy ad A 2 x1 0 σ0 (show 2 < 4 by decide) hp) ⟨va_cnB 2 hts gX6_firstUnmet_X3_at_n83 rfl rfl rfl (nwm_58 hN) (hts (.initialized RX3) (List.mem_of_getElem? (i := 3) rfl)) (by decide +kernel) ⟨le_R hRf (Nat.le_of_ble_eq_true rfl), le_R hRl (Nat.le_of_ble_eq_true rfl)⟩, (hts (.instanceMethod yX3_at) (List.mem_of_getElem? (i := 2) rfl)), (hts (.selects RX3 yX3_at yX3_at) (List.mem_of_getElem? (i := 4) rfl))⟩ ⟨(fun a U g mk q => ⟨q.1, q.2.blind⟩), va_recv hK hP (ci := 3) (q0 := 17) rfl (wC_17 cy ad σ0), (fun U hU hW => ⟨rfl, WdC.pre hP hK hD hN hU hW⟩)⟩ rfl rfl hl.1 rfl (lv_room (Nat.le_of_ble_eq_true rfl)) dX6_firstUnmet_19 ⟨le_R hRc (Nat.le_refl 0), le_R hRs (Nat.le_refl 0)⟩) hS (fun r H locs hr1 hP hS => ?_)
        subst hr1
        refine lv_iload_n hx hb dX6_firstUnmet_22 rfl (lv_at hl 1 rfl) ?_
        refine k_pure_i (va_runSN (As := [.int (fn_X3_at 2 x1 0 σ0), .int banned_]) (rest := []) ⟨hx, hb, hml, hown, hts⟩ (h_X8_isIn (fn_X3_at 2 x1 0 σ0) banned_) ⟨va_cnB 2 hts gX6_firstUnmet_X8_isIn_n85 rfl rfl rfl (nwm_59 hN) (hts (.initialized RX8) (List.mem_of_getElem? (i := 13) rfl)) (by decide +kernel) ⟨le_R hRf (Nat.le_of_ble_eq_true rfl), le_R hRl (Nat.le_of_ble_eq_true rfl)⟩, (hts (.static yX8_isIn) (List.mem_of_getElem? (i := 15) rfl)), trivial⟩ ⟨(fun a U g mk q => ⟨q.1, trivial⟩), (fun U hU hW => ⟨rfl, trivial⟩)⟩ rfl rfl hl.1 rfl (lv_room (Nat.le_of_ble_eq_true rfl)) dX6_firstUnmet_23 ⟨le_R hRc (Nat.le_refl 0), le_R hRs (Nat.le_refl 0)⟩) hS hP (fun r H locs hr1 hP hS => ?_)
        subst hr1
        refine lv_if_eq (tgt := 47) hx hb dX6_firstUnmet_26 (by decide) (fun c3 => ?_) (fun c3 => ?_)
        · have hv := hv.1 c3
          refine lv_iinc (v := (x1 + 1)) (lv' := [(2, .int (x1 + 1)), (0, .ref (ad 11)), (1, .int banned_)]) hx hb dX6_firstUnmet_47 hl (k := 2) rfl rfl (by decide) rfl (fun ls hl => ?_)
          refine lv_goto (tgt := 2) hx hb dX6_firstUnmet_50 (by decide) ?_
          exact ih2 (x1 + 1) _ _ _ hv hP hD hS (lv_sub hl [1, 2, 0] rfl)
        · have hv := hv.2 c3
          refine lv_aload_n hx hb dX6_firstUnmet_29 rfl (lv_at hl 0 rfl) ?_
          refine va_get (ci := 6) (v := .ref (ad (17))) (C := RX6) (T := TX6) (N := 8) hx hb hts hinX6 hown hK hP 11 (wC_11 cy ad σ0) rfl 3 (by decide) (hts (.fieldLink RX6 29 "TaleBans$Steppe" "needs" "LTaleBans$Ledger;") (List.mem_of_getElem? (i := 1) rfl)) (fun x h => h) rfl dX6_firstUnmet_30 ?_
          refine lv_iload_n hx hb dX6_firstUnmet_33 rfl (lv_at hl 2 rfl) ?_
          refine lv_iconst (v := 1) hx hb dX6_firstUnmet_34 (by decide) ?_
          obtain ⟨hp, hv⟩ := hv
          refine k_read_i (w := wC cy ad) (va_runVN (As := [.int x1, .int 1]) (rest := []) ⟨hx, hb, hml, hown, hts⟩ (h_X3_at D cy ad A 2 x1 1 σ0 (show 2 < 4 by decide) hp) ⟨va_cnB 2 hts gX6_firstUnmet_X3_at_n83 rfl rfl rfl (nwm_58 hN) (hts (.initialized RX3) (List.mem_of_getElem? (i := 3) rfl)) (by decide +kernel) ⟨le_R hRf (Nat.le_of_ble_eq_true rfl), le_R hRl (Nat.le_of_ble_eq_true rfl)⟩, (hts (.instanceMethod yX3_at) (List.mem_of_getElem? (i := 2) rfl)), (hts (.selects RX3 yX3_at yX3_at) (List.mem_of_getElem? (i := 4) rfl))⟩ ⟨(fun a U g mk q => ⟨q.1, q.2.blind⟩), va_recv hK hP (ci := 3) (q0 := 17) rfl (wC_17 cy ad σ0), (fun U hU hW => ⟨rfl, WdC.pre hP hK hD hN hU hW⟩)⟩ rfl rfl hl.1 rfl (lv_room (Nat.le_of_ble_eq_true rfl)) dX6_firstUnmet_35 ⟨le_R hRc (Nat.le_refl 0), le_R hRs (Nat.le_refl 0)⟩) hS (fun r H locs hr1 hP hS => ?_)
          subst hr1
          refine lv_iload_n hx hb dX6_firstUnmet_38 rfl (lv_at hl 1 rfl) ?_
          refine k_pure_i (va_runSN (As := [.int (fn_X3_at 2 x1 1 σ0), .int banned_]) (rest := []) ⟨hx, hb, hml, hown, hts⟩ (h_X8_isIn (fn_X3_at 2 x1 1 σ0) banned_) ⟨va_cnB 2 hts gX6_firstUnmet_X8_isIn_n85 rfl rfl rfl (nwm_59 hN) (hts (.initialized RX8) (List.mem_of_getElem? (i := 13) rfl)) (by decide +kernel) ⟨le_R hRf (Nat.le_of_ble_eq_true rfl), le_R hRl (Nat.le_of_ble_eq_true rfl)⟩, (hts (.static yX8_isIn) (List.mem_of_getElem? (i := 15) rfl)), trivial⟩ ⟨(fun a U g mk q => ⟨q.1, trivial⟩), (fun U hU hW => ⟨rfl, trivial⟩)⟩ rfl rfl hl.1 rfl (lv_room (Nat.le_of_ble_eq_true rfl)) dX6_firstUnmet_39 ⟨le_R hRc (Nat.le_refl 0), le_R hRs (Nat.le_refl 0)⟩) hS hP (fun r H locs hr1 hP hS => ?_)
          subst hr1
          refine lv_if_eq (tgt := 47) hx hb dX6_firstUnmet_42 (by decide) (fun c2 => ?_) (fun c2 => ?_)
          · have hv := hv.1 c2
            refine lv_iinc (v := (x1 + 1)) (lv' := [(2, .int (x1 + 1)), (0, .ref (ad 11)), (1, .int banned_)]) hx hb dX6_firstUnmet_47 hl (k := 2) rfl rfl (by decide) rfl (fun ls hl => ?_)
            refine lv_goto (tgt := 2) hx hb dX6_firstUnmet_50 (by decide) ?_
            exact ih2 (x1 + 1) _ _ _ hv hP hD hS (lv_sub hl [1, 2, 0] rfl)
          · have hv := hv.2 c2
            refine lv_iload_n hx hb dX6_firstUnmet_45 rfl (lv_at hl 2 rfl) ?_
            rw [hZ]; rw [hQ] at hv
            exact W.iret (v := x1) hx hb hr (fun t ht hW => ⟨⟨x1, (), rfl, hv, (P_of ht hP)⟩, hS.F ht⟩) hS.2.2 dX6_firstUnmet_46
  exact lp2 n2 0 _ _ _ hv hP hD hS (lv_sub hl [1, 2, 0] rfl)
set_option maxHeartbeats 4000000 in
set_option maxRecDepth 100000 in
theorem wk_X6_person (l : Launch) (h_X8_isOneOf : Ct_X8_isOneOf l) (sp : Sp_X6_person) : Ct_X6_person l := by
  intro D cy ad A p_  σ0  hpre
  refine Met.ofW (cc := cX6_person) (maxL := 2) (ret := (some (.object "TaleBans$Herder"))) (by decide) rfl ?_
  intro p e s m args below meth c s₁ B hml hv0
  obtain ⟨rfl, hP, hK, hD, hN⟩ := hv0
  have hx := B.exec
  have hb := B.bytes
  have hr := B.returns
  have hts := atoms_spec (ws := wsX6_person) B.pre
  have hown : s.vm.findClass RX6 = some m.cls := findClass_of_methodNamed B.named
  have hlocks := B.notSynchronized
  have hv := sp p_  σ0 hpre
  have hl := lv_entry ([.ref (ad 11), .int p_]) (n := 2) (Nat.le_of_ble_eq_true rfl)
  rw [lg_entry_eq]
  generalize (lg_sl ([.ref (ad 11), .int p_]) ++ List.replicate (2 - (lg_sl ([.ref (ad 11), .int p_])).length) Slot.unset).toArray = ls at hl ⊢
  have hl : lv_has ls 2 [(0, .ref (ad 11)), (1, .int p_)] := hl
  refine W_gen (fun R Z H locs hR hZ hH hlo => ?_)
  have hRf : R.frames = 1 := by rw [hR]; rfl
  have hRl : R.locals = 21 := by rw [hR]; rfl
  have hRc : R.cells = 0 := by rw [hR]; rfl
  have hRs : R.slots = 0 := by rw [hR]; rfl
  have hS : va_S A s.heap H locs := by rw [hH, hlo]; exact va_S.rf
  rw [← hH] at hP
  obtain ⟨Q, hQ⟩ : ∃ q : Option Nat → Prop, q = (fun r => r = fn_X6_person p_ σ0) := ⟨_, rfl⟩
  rw [← hQ] at hv
  have hinX6 : ∀ w ∈ wsX60, w ∈ wsX6_person := by decide +kernel
  refine lv_iload_n hx hb dX6_person_0 rfl (lv_at hl 1 rfl) ?_
  refine lv_aload_n hx hb dX6_person_1 rfl (lv_at hl 0 rfl) ?_
  refine va_get (ci := 6) (v := .int (rdI σ0 2)) (C := RX6) (T := TX6) (N := 8) hx hb hts hinX6 hown hK hP 11 (wC_11 cy ad σ0) rfl 5 (by decide) (hts (.fieldLink RX6 51 "TaleBans$Steppe" "persons" "I") (List.mem_of_getElem? (i := 1) rfl)) (fun x h => h) rfl dX6_person_2 ?_
  refine k_pure_i (va_runSN (As := [.int p_, .int (rdI σ0 2)]) (rest := []) ⟨hx, hb, hml, hown, hts⟩ (h_X8_isOneOf p_ (rdI σ0 2)) ⟨va_cnB 2 hts gX6_person_X8_isOneOf_n77 rfl rfl rfl (nwm_36 hN) (hts (.initialized RX8) (List.mem_of_getElem? (i := 4) rfl)) (by decide +kernel) ⟨le_R hRf (Nat.le_of_ble_eq_true rfl), le_R hRl (Nat.le_of_ble_eq_true rfl)⟩, (hts (.static yX8_isOneOf) (List.mem_of_getElem? (i := 3) rfl)), trivial⟩ ⟨(fun a U g mk q => ⟨q.1, trivial⟩), (fun U hU hW => ⟨rfl, trivial⟩)⟩ rfl rfl hl.1 rfl (lv_room (Nat.le_of_ble_eq_true rfl)) dX6_person_5 ⟨le_R hRc (Nat.le_refl 0), le_R hRs (Nat.le_refl 0)⟩) hS hP (fun r H locs hr1 hP hS => ?_)
  subst hr1
  refine lv_if_eq (tgt := 20) hx hb dX6_person_8 (by decide) (fun c1 => ?_) (fun c1 => ?_)
  · have hv := hv.1 c1
    refine lv_null hx hb dX6_person_20 ?_
    rw [hZ]; rw [hQ] at hv
    exact W.aret (v := .null) hx hb hr (Or.inl ⟨_, rfl⟩) (Or.inl rfl) (fun t ht hW => ⟨⟨none, (), rfl, hv, (P_of ht hP)⟩, hS.F ht⟩) hS.2.2 dX6_person_21
  · have hv := hv.2 c1
    refine lv_aload_n hx hb dX6_person_11 rfl (lv_at hl 0 rfl) ?_
    refine va_get (ci := 6) (v := .ref (ad 12)) (C := RX6) (T := TX6) (N := 8) hx hb hts hinX6 hown hK hP 11 (wC_11 cy ad σ0) rfl 0 (by decide) (hts (.fieldLink RX6 11 "TaleBans$Steppe" "people" "[LTaleBans$Herder;") (List.mem_of_getElem? (i := 2) rfl)) (fun x h => h) rfl dX6_person_12 ?_
    refine lv_iload_n hx hb dX6_person_15 rfl (lv_at hl 1 rfl) ?_
    obtain ⟨hi, hpg, hv⟩ := hv
    refine va_aldq hx hb hK hP 12 3 (wC_12 cy ad σ0) rfl hi dX6_person_16 ?_
    refine W_top (v' := .ref ((hget σ0 (Int32.toNatClampNeg p_)).1)) (by rw [hpg]; rfl) ?_
    refine lv_goto (tgt := 21) hx hb dX6_person_17 (by decide) ?_
    rw [hZ]; rw [hQ] at hv
    exact W.aret (v := .ref ((hget σ0 (Int32.toNatClampNeg p_)).1)) hx hb hr (Or.inl ⟨_, rfl⟩) (Or.inr ⟨_, rfl⟩) (fun t ht hW => ⟨⟨some (Int32.toNatClampNeg p_), (), rfl, hv, (P_of ht hP)⟩, hS.F ht⟩) hS.2.2 dX6_person_21
