set_option maxHeartbeats 4000000 in
set_option maxRecDepth 100000 in
theorem wk_X8_odds (l : Launch) (h_X8_isBannedIfPaid : Ct_X8_isBannedIfPaid l) (h_X8_isOneOf : Ct_X8_isOneOf l) (h_X8_refusal : Ct_X8_refusal l) (sp : Sp_X8_odds) : Ct_X8_odds l := by
  intro D cy ad A deed_ season_ which_ ag σ0  hpre
  refine Met.ofW (cc := cX8_odds) (maxL := 7) (ret := (some .long)) (by decide) rfl ?_
  intro p e s m args below meth c s₁ B hml hv0
  obtain ⟨rfl, hP, hK, hD, hN⟩ := hv0
  have hx := B.exec
  have hb := B.bytes
  have hr := B.returns
  have hts := atoms_spec (ws := wsX8_odds) B.pre
  have hown : s.vm.findClass RX8 = some m.cls := findClass_of_methodNamed B.named
  have hlocks := B.notSynchronized
  have hv := sp deed_ season_ which_ ag σ0 hpre
  have hl := lv_entry ([.ref (ad 0), .int deed_, .int season_, .int which_]) (n := 7) (Nat.le_of_ble_eq_true rfl)
  rw [lg_entry_eq]
  generalize (lg_sl ([.ref (ad 0), .int deed_, .int season_, .int which_]) ++ List.replicate (7 - (lg_sl ([.ref (ad 0), .int deed_, .int season_, .int which_])).length) Slot.unset).toArray = ls at hl ⊢
  have hl : lv_has ls 7 [(0, .ref (ad 0)), (1, .int deed_), (2, .int season_), (3, .int which_)] := hl
  refine W_gen (fun R Z H locs hR hZ hH hlo => ?_)
  have hRf : R.frames = 6 := by rw [hR]; rfl
  have hRl : R.locals = 137 := by rw [hR]; rfl
  have hRc : R.cells = 0 := by rw [hR]; rfl
  have hRs : R.slots = 0 := by rw [hR]; rfl
  have hS : va_S A s.heap H locs := by rw [hH, hlo]; exact va_S.rf
  rw [← hH] at hP
  obtain ⟨Q, hQ⟩ : ∃ q : Int64 → S_ → Prop, q = (post_X8_odds deed_ season_ which_ ag σ0) := ⟨_, rfl⟩
  rw [← hQ] at hv
  have hinX6 : ∀ w ∈ wsX60, w ∈ wsX8_odds := by decide +kernel
  have hinX8 : ∀ w ∈ wsX80, w ∈ wsX8_odds := by decide +kernel
  refine lv_aload_n hx hb dX8_odds_0 rfl (lv_at hl 0 rfl) ?_
  refine lv_iload_n hx hb dX8_odds_1 rfl (lv_at hl 1 rfl) ?_
  refine lv_bipush (v := 6) hx hb dX8_odds_2 (by decide) ?_
  refine k_pure_i (va_runS (As := [.int deed_, .int 6]) (rest := [.ref (ad 0)]) ⟨hx, hb, hml, hown, hts⟩ (h_X8_isOneOf deed_ 6) (va_cwS 2 hts gX8_odds_X8_isOneOf rfl rfl rfl (by decide +kernel) ⟨le_R hRf (Nat.le_of_ble_eq_true rfl), le_R hRl (Nat.le_of_ble_eq_true rfl)⟩) ⟨(fun a U g mk q => ⟨q.1, trivial⟩), (fun U hU hW => ⟨rfl, trivial⟩)⟩ rfl rfl hl.1 rfl (lv_room (Nat.le_of_ble_eq_true rfl)) dX8_odds_4 ⟨le_R hRc (Nat.le_refl 0), le_R hRs (Nat.le_refl 0)⟩) hS hP (fun r H locs hr1 hP hS => ?_)
  subst hr1
  refine lv_iload_n hx hb dX8_odds_7 rfl (lv_at hl 2 rfl) ?_
  refine lv_bipush (v := 40) hx hb dX8_odds_8 (by decide) ?_
  refine k_pure_i (va_runS (As := [.int season_, .int 40]) (rest := [.int (fn_X8_isOneOf deed_ 6), .ref (ad 0)]) ⟨hx, hb, hml, hown, hts⟩ (h_X8_isOneOf season_ 40) (va_cwS 2 hts gX8_odds_X8_isOneOf rfl rfl rfl (by decide +kernel) ⟨le_R hRf (Nat.le_of_ble_eq_true rfl), le_R hRl (Nat.le_of_ble_eq_true rfl)⟩) ⟨(fun a U g mk q => ⟨q.1, trivial⟩), (fun U hU hW => ⟨rfl, trivial⟩)⟩ rfl rfl hl.1 rfl (lv_room (Nat.le_of_ble_eq_true rfl)) dX8_odds_10 ⟨le_R hRc (Nat.le_refl 0), le_R hRs (Nat.le_refl 0)⟩) hS hP (fun r H locs hr1 hP hS => ?_)
  subst hr1
  obtain ⟨P1, hv, hvr⟩ := hv
  have jn2 : ∀ (b3 : Int32) (H : Heap) (locs : List Loc) (ls : Array Slot), P1 b3 → va_P D vwCl (wC cy ad σ0) H → va_S A s.heap H locs → lv_has ls 7 [(0, .ref (ad 0)), (1, .int deed_), (2, .int season_), (3, .int which_)] → W p l e R s m ([.ref (ad 0), .int deed_, .int season_, .int which_] : List Value).toArray below meth c H locs 0 0 Z (F0 m 29 ls [.int b3, .int (fn_X8_isOneOf deed_ 6), .ref (ad 0)]) := by
    intro b3 H locs ls hv hP hS hl
    have hv := hvr b3 hv
    have hp := True.intro
    refine k_read_i (w := wC cy ad) (va_runV (As := [.int (fn_X8_isOneOf deed_ 6), .int b3]) (rest := []) ⟨hx, hb, hml, hown, hts⟩ (h_X8_refusal D cy ad A (fn_X8_isOneOf deed_ 6) b3 σ0 hp) (cwV 2 hts gX8_odds_X8_refusal rfl rfl rfl (by decide +kernel) ⟨le_R hRf (Nat.le_of_ble_eq_true rfl), le_R hRl (Nat.le_of_ble_eq_true rfl)⟩) ⟨(fun a U g mk q => ⟨q.1, q.2.blind⟩), va_recv hK hP (ci := 8) (q0 := 0) rfl (wC_0 cy ad σ0), (fun U hU hW => ⟨rfl, WdC.pre hP hK hD hN hU hW⟩)⟩ rfl rfl hl.1 rfl (lv_room (Nat.le_of_ble_eq_true rfl)) dX8_odds_29 ⟨le_R hRc (Nat.le_refl 0), le_R hRs (Nat.le_refl 0)⟩) hS (fun r H locs hr1 hP hS => ?_)
    subst hr1
    refine lv_if_eq (tgt := 39) hx hb dX8_odds_32 (by decide) (fun c22 => ?_) (fun c22 => ?_)
    · have hv := hv.1 c22
      refine lv_iconst (v := 1) hx hb dX8_odds_39 (by decide) ?_
      refine lv_aload_n hx hb dX8_odds_40 rfl (lv_at hl 0 rfl) ?_
      refine va_get (ci := 8) (v := .ref (ad 11)) (C := RX8) (T := TX8) (N := 5) hx hb hts hinX8 hown hK hP 0 (wC_0 cy ad σ0) rfl 2 (by decide) (hts (.fieldLink RX8 27 "TaleBans" "land" "LTaleBans$Steppe;") (List.mem_of_getElem? (i := 2) rfl)) (fun x h => h) rfl dX8_odds_41 ?_
      refine va_getN (ci := 6) (v := .int (rdI σ0 2)) (C := RX6) (T := TX6) (N := 8) hx hb hts hinX6 hown hK hP 11 (wC_11 cy ad σ0) rfl 5 (by decide) (nw_11 hN) (fun x h => h) rfl dX8_odds_44 ?_
      refine lv_ishl hx hb dX8_odds_47 ?_
      refine lv_istore (lv' := [(4, .int (1 <<< ((rdI σ0 2) &&& 31))), (0, .ref (ad 0)), (1, .int deed_), (2, .int season_), (3, .int which_)]) hx hb dX8_odds_48 hl (by decide) rfl (fun ls hl => ?_)
      refine lv_iconst (v := 0) hx hb dX8_odds_50 (by decide) ?_
      refine lv_istore (lv' := [(5, .int 0), (4, .int (1 <<< ((rdI σ0 2) &&& 31))), (0, .ref (ad 0)), (1, .int deed_), (2, .int season_), (3, .int which_)]) hx hb dX8_odds_51 hl (by decide) rfl (fun ls hl => ?_)
      refine lv_iconst (v := 0) hx hb dX8_odds_53 (by decide) ?_
      refine lv_istore (lv' := [(6, .int 0), (5, .int 0), (4, .int (1 <<< ((rdI σ0 2) &&& 31))), (0, .ref (ad 0)), (1, .int deed_), (2, .int season_), (3, .int which_)]) hx hb dX8_odds_54 hl (by decide) rfl (fun ls hl => ?_)
      obtain ⟨n56, hv⟩ := hv
      have lp56 : ∀ (nn56 : Nat) (x6 : Int32) (x7 : Int32) (σ8 : S_) (H : Heap) (locs : List Loc) (ls : Array Slot), vl_X8_odds_56 deed_ season_ which_ σ0 Q nn56 x6 x7 σ8 → va_P D vwCl (wC cy ad σ8) H → va_D A (wC cy ad σ8) → va_S A s.heap H locs → lv_has ls 7 [(0, .ref (ad 0)), (1, .int deed_), (2, .int season_), (3, .int which_), (4, .int (1 <<< ((rdI σ0 2) &&& 31))), (5, .int x6), (6, .int x7)] → W p l e R s m ([.ref (ad 0), .int deed_, .int season_, .int which_] : List Value).toArray  below meth c H locs 0 0 Z (F0 m 56 ls []) := by
        intro nn56
        induction nn56 with
        | zero => intro x6 x7 σ8 H locs ls hv; exact absurd hv id
        | succ mm56 ih56 =>
          intro x6 x7 σ8 H locs ls hv hP hD hS hl
          refine lv_iload hx hb dX8_odds_56 (lv_at hl 6 rfl) ?_
          refine lv_iload hx hb dX8_odds_58 (lv_at hl 4 rfl) ?_
          refine lv_icmp_ge (tgt := 83) hx hb dX8_odds_60 (by decide) (fun c21 => ?_) (fun c21 => ?_)
          · have hv := hv.1 c21
            refine lv_iload hx hb dX8_odds_83 (lv_at hl 4 rfl) ?_
            refine lv_istore (lv' := [(6, .int (1 <<< ((rdI σ0 2) &&& 31))), (0, .ref (ad 0)), (1, .int deed_), (2, .int season_), (3, .int which_), (4, .int (1 <<< ((rdI σ0 2) &&& 31))), (5, .int x6)]) hx hb dX8_odds_85 hl (by decide) rfl (fun ls hl => ?_)
            obtain ⟨n87, hv⟩ := hv
            have lp87 : ∀ (nn87 : Nat) (x9 : Int32) (x10 : Int32) (H : Heap) (locs : List Loc) (ls : Array Slot), vl_X8_odds_87 which_ σ8 Q nn87 x9 x10 → va_P D vwCl (wC cy ad σ8) H → va_D A (wC cy ad σ8) → va_S A s.heap H locs → lv_has ls 7 [(3, .int which_), (5, .int x9), (6, .int x10)] → W p l e R s m ([.ref (ad 0), .int deed_, .int season_, .int which_] : List Value).toArray  below meth c H locs 0 0 Z (F0 m 87 ls []) := by
              intro nn87
              induction nn87 with
              | zero => intro x9 x10 H locs ls hv; exact absurd hv id
              | succ mm87 ih87 =>
                intro x9 x10 H locs ls hv hP hD hS hl
                refine lv_iload hx hb dX8_odds_87 (lv_at hl 2 rfl) ?_
                refine lv_iconst (v := 1) hx hb dX8_odds_89 (by decide) ?_
                refine lv_icmp_le (tgt := 115) hx hb dX8_odds_90 (by decide) (fun c14 => ?_) (fun c14 => ?_)
                · have hv := hv.1 c14
                  refine lv_iload_n hx hb dX8_odds_115 rfl (lv_at hl 0 rfl) ?_
                  refine lv_if_ne (tgt := 125) hx hb dX8_odds_116 (by decide) (fun c11 => ?_) (fun c11 => ?_)
                  · have hv := hv.1 c11
                    refine lv_iload hx hb dX8_odds_125 (lv_at hl 2 rfl) ?_
                    refine lv_i2l hx hb dX8_odds_127 rfl ?_
                    rw [hZ]; rw [hQ] at hv
                    exact W.lret (v := (Int32.toInt64 x10)) hx hb hr (fun t ht hW => ⟨⟨(Int32.toInt64 x10), σ8, rfl, hv, ⟨P_of ht hP, hD⟩⟩, hS.F ht⟩) hS.2.2 dX8_odds_128
                  · have hv := hv.2 c11
                    refine lv_iload hx hb dX8_odds_119 (lv_at hl 1 rfl) ?_
                    refine lv_i2l hx hb dX8_odds_121 rfl ?_
                    refine lv_goto (tgt := 128) hx hb dX8_odds_122 (by decide) ?_
                    rw [hZ]; rw [hQ] at hv
                    exact W.lret (v := (Int32.toInt64 x9)) hx hb hr (fun t ht hW => ⟨⟨(Int32.toInt64 x9), σ8, rfl, hv, ⟨P_of ht hP, hD⟩⟩, hS.F ht⟩) hS.2.2 dX8_odds_128
                · have hv := hv.2 c14
                  refine lv_iload hx hb dX8_odds_93 (lv_at hl 1 rfl) ?_
                  refine lv_iconst (v := 2) hx hb dX8_odds_95 (by decide) ?_
                  obtain ⟨hne, hv⟩ := hv
                  refine lv_irem hx hb dX8_odds_96 hne ?_
                  refine lv_if_ne (tgt := 115) hx hb dX8_odds_97 (by decide) (fun c13 => ?_) (fun c13 => ?_)
                  · have hv := hv.1 c13
                    refine lv_iload_n hx hb dX8_odds_115 rfl (lv_at hl 0 rfl) ?_
                    refine lv_if_ne (tgt := 125) hx hb dX8_odds_116 (by decide) (fun c12 => ?_) (fun c12 => ?_)
                    · have hv := hv.1 c12
                      refine lv_iload hx hb dX8_odds_125 (lv_at hl 2 rfl) ?_
                      refine lv_i2l hx hb dX8_odds_127 rfl ?_
                      rw [hZ]; rw [hQ] at hv
                      exact W.lret (v := (Int32.toInt64 x10)) hx hb hr (fun t ht hW => ⟨⟨(Int32.toInt64 x10), σ8, rfl, hv, ⟨P_of ht hP, hD⟩⟩, hS.F ht⟩) hS.2.2 dX8_odds_128
                    · have hv := hv.2 c12
                      refine lv_iload hx hb dX8_odds_119 (lv_at hl 1 rfl) ?_
                      refine lv_i2l hx hb dX8_odds_121 rfl ?_
                      refine lv_goto (tgt := 128) hx hb dX8_odds_122 (by decide) ?_
                      rw [hZ]; rw [hQ] at hv
                      exact W.lret (v := (Int32.toInt64 x9)) hx hb hr (fun t ht hW => ⟨⟨(Int32.toInt64 x9), σ8, rfl, hv, ⟨P_of ht hP, hD⟩⟩, hS.F ht⟩) hS.2.2 dX8_odds_128
                  · have hv := hv.2 c13
                    refine lv_iload hx hb dX8_odds_100 (lv_at hl 1 rfl) ?_
                    refine lv_iconst (v := 2) hx hb dX8_odds_102 (by decide) ?_
                    obtain ⟨hne, hv⟩ := hv
                    refine lv_idiv hx hb dX8_odds_103 hne ?_
                    refine lv_istore (lv' := [(5, .int (x9 / 2)), (3, .int which_), (6, .int x10)]) hx hb dX8_odds_104 hl (by decide) rfl (fun ls hl => ?_)
                    refine lv_iload hx hb dX8_odds_106 (lv_at hl 2 rfl) ?_
                    refine lv_iconst (v := 2) hx hb dX8_odds_108 (by decide) ?_
                    obtain ⟨hne, hv⟩ := hv
                    refine lv_idiv hx hb dX8_odds_109 hne ?_
                    refine lv_istore (lv' := [(6, .int (x10 / 2)), (5, .int (x9 / 2)), (3, .int which_)]) hx hb dX8_odds_110 hl (by decide) rfl (fun ls hl => ?_)
                    refine lv_goto (tgt := 87) hx hb dX8_odds_112 (by decide) ?_
                    exact ih87 (x9 / 2) (x10 / 2) _ _ _ hv hP hD hS (lv_sub hl [2, 1, 0] rfl)
            exact lp87 n87 x6 (1 <<< ((rdI σ0 2) &&& 31)) _ _ _ hv hP hD hS (lv_sub hl [4, 6, 0] rfl)
          · have hv := hv.2 c21
            refine lv_aload_n hx hb dX8_odds_63 rfl (lv_at hl 0 rfl) ?_
            refine lv_iload_n hx hb dX8_odds_64 rfl (lv_at hl 1 rfl) ?_
            refine lv_iload_n hx hb dX8_odds_65 rfl (lv_at hl 2 rfl) ?_
            refine lv_iload hx hb dX8_odds_66 (lv_at hl 6 rfl) ?_
            obtain ⟨g15, g16, g17, hv⟩ := hv
            obtain ⟨hp, hv⟩ := hv
            refine k_rel_i (w := wC cy ad) (va_runV (As := [.int deed_, .int season_, .int x7]) (rest := []) ⟨hx, hb, hml, hown, hts⟩ (h_X8_isBannedIfPaid D cy ad A deed_ season_ x7 g15 g16 g17 σ8 hp) (cwV 3 hts gX8_odds_X8_isBannedIfPaid rfl rfl rfl (by decide +kernel) ⟨le_R hRf (Nat.le_of_ble_eq_true rfl), le_R hRl (Nat.le_of_ble_eq_true rfl)⟩) ⟨(fun a U g mk q => ⟨q.1, q.2.blind⟩), va_recv hK hP (ci := 8) (q0 := 0) rfl (wC_0 cy ad σ8), (fun U hU hW => ⟨rfl, WdC.pre hP hK hD hN hU hW⟩)⟩ rfl rfl hl.1 rfl (lv_room (Nat.le_of_ble_eq_true rfl)) dX8_odds_68 ⟨le_R hRc (Nat.le_refl 0), le_R hRs (Nat.le_refl 0)⟩) hS (fun r19 σ18 H locs hr1 hP hD hS => ?_)
            have hv := hv r19 σ18 hr1
            refine lv_if_ne (tgt := 77) hx hb dX8_odds_71 (by decide) (fun c20 => ?_) (fun c20 => ?_)
            · have hv := hv.1 c20
              refine lv_iinc (v := (x7 + 1)) (lv' := [(6, .int (x7 + 1)), (0, .ref (ad 0)), (1, .int deed_), (2, .int season_), (3, .int which_), (4, .int (1 <<< ((rdI σ0 2) &&& 31))), (5, .int x6)]) hx hb dX8_odds_77 hl (k := 6) rfl rfl (by decide) rfl (fun ls hl => ?_)
              refine lv_goto (tgt := 56) hx hb dX8_odds_80 (by decide) ?_
              exact ih56 x6 (x7 + 1) σ18 _ _ _ hv hP hD hS (lv_sub hl [1, 2, 3, 4, 5, 6, 0] rfl)
            · have hv := hv.2 c20
              refine lv_iinc (v := (x6 + 1)) (lv' := [(5, .int (x6 + 1)), (0, .ref (ad 0)), (1, .int deed_), (2, .int season_), (3, .int which_), (4, .int (1 <<< ((rdI σ0 2) &&& 31))), (6, .int x7)]) hx hb dX8_odds_74 hl (k := 5) rfl rfl (by decide) rfl (fun ls hl => ?_)
              refine lv_iinc (v := (x7 + 1)) (lv' := [(6, .int (x7 + 1)), (5, .int (x6 + 1)), (0, .ref (ad 0)), (1, .int deed_), (2, .int season_), (3, .int which_), (4, .int (1 <<< ((rdI σ0 2) &&& 31)))]) hx hb dX8_odds_77 hl (k := 6) rfl rfl (by decide) rfl (fun ls hl => ?_)
              refine lv_goto (tgt := 56) hx hb dX8_odds_80 (by decide) ?_
              exact ih56 (x6 + 1) (x7 + 1) σ18 _ _ _ hv hP hD hS (lv_sub hl [2, 3, 4, 5, 6, 1, 0] rfl)
      exact lp56 n56 0 0 σ0 _ _ _ hv hP hD hS (lv_sub hl [3, 4, 5, 6, 2, 1, 0] rfl)
    · have hv := hv.2 c22
      refine lv_ldc2 (v := (-9223372036854775808)) hx hb hown (hts (.constantLong RX8 195 (-9223372036854775808)) (List.mem_of_getElem? (i := 1) rfl)) dX8_odds_35 ?_
      rw [hZ]; rw [hQ] at hv
      exact W.lret (v := (-9223372036854775808)) hx hb hr (fun t ht hW => ⟨⟨(-9223372036854775808), σ0, rfl, hv, ⟨P_of ht hP, hD⟩⟩, hS.F ht⟩) hS.2.2 dX8_odds_38
  refine lv_if_eq (tgt := 28) hx hb dX8_odds_13 (by decide) (fun c5 => ?_) (fun c5 => ?_)
  · have hv := hv.1 c5
    refine lv_iconst (v := 0) hx hb dX8_odds_28 (by decide) ?_
    exact jn2 0 _ _ _ hv hP hS hl
  · have hv := hv.2 c5
    refine lv_iload_n hx hb dX8_odds_16 rfl (lv_at hl 3 rfl) ?_
    refine lv_iconst (v := 2) hx hb dX8_odds_17 (by decide) ?_
    refine k_pure_i (va_runS (As := [.int which_, .int 2]) (rest := [.int (fn_X8_isOneOf deed_ 6), .ref (ad 0)]) ⟨hx, hb, hml, hown, hts⟩ (h_X8_isOneOf which_ 2) (va_cwS 2 hts gX8_odds_X8_isOneOf rfl rfl rfl (by decide +kernel) ⟨le_R hRf (Nat.le_of_ble_eq_true rfl), le_R hRl (Nat.le_of_ble_eq_true rfl)⟩) ⟨(fun a U g mk q => ⟨q.1, trivial⟩), (fun U hU hW => ⟨rfl, trivial⟩)⟩ rfl rfl hl.1 rfl (lv_room (Nat.le_of_ble_eq_true rfl)) dX8_odds_18 ⟨le_R hRc (Nat.le_refl 0), le_R hRs (Nat.le_refl 0)⟩) hS hP (fun r H locs hr1 hP hS => ?_)
    subst hr1
    refine lv_if_eq (tgt := 28) hx hb dX8_odds_21 (by decide) (fun c4 => ?_) (fun c4 => ?_)
    · have hv := hv.1 c4
      refine lv_iconst (v := 0) hx hb dX8_odds_28 (by decide) ?_
      exact jn2 0 _ _ _ hv hP hS hl
    · have hv := hv.2 c4
      refine lv_iconst (v := 1) hx hb dX8_odds_24 (by decide) ?_
      refine lv_goto (tgt := 29) hx hb dX8_odds_25 (by decide) ?_
      exact jn2 1 _ _ _ hv hP hS hl
set_option maxHeartbeats 4000000 in
set_option maxRecDepth 100000 in
theorem wk_X8_sheet (l : Launch) (h_X5_renew : Ct_X5_renew l) (h_X8_faulted : Ct_X8_faulted l) (h_X8_isOneOf : Ct_X8_isOneOf l) (h_X8_sheetAt : Ct_X8_sheetAt l) (sp : Sp_X8_sheet) : Ct_X8_sheet l := by
  intro D cy ad A k_ lane_ n_ ag σ0  hpre
  refine Met.ofW (cc := cX8_sheet) (maxL := 5) (ret := (some .int)) (by decide) rfl ?_
  intro p e s m args below meth c s₁ B hml hv0
  obtain ⟨rfl, hP, hK, hD, hN⟩ := hv0
  have hx := B.exec
  have hb := B.bytes
  have hr := B.returns
  have hts := atoms_spec (ws := wsX8_sheet) B.pre
  have hown : s.vm.findClass RX8 = some m.cls := findClass_of_methodNamed B.named
  have hlocks := B.notSynchronized
  have hv := sp k_ lane_ n_ ag σ0 hpre
  have hl := lv_entry ([.ref (ad 0), .int k_, .int lane_, .int n_]) (n := 5) (Nat.le_of_ble_eq_true rfl)
  rw [lg_entry_eq]
  generalize (lg_sl ([.ref (ad 0), .int k_, .int lane_, .int n_]) ++ List.replicate (5 - (lg_sl ([.ref (ad 0), .int k_, .int lane_, .int n_])).length) Slot.unset).toArray = ls at hl ⊢
  have hl : lv_has ls 5 [(0, .ref (ad 0)), (1, .int k_), (2, .int lane_), (3, .int n_)] := hl
  refine W_gen (fun R Z H locs hR hZ hH hlo => ?_)
  have hRf : R.frames = 2 := by rw [hR]; rfl
  have hRl : R.locals = 45 := by rw [hR]; rfl
  have hRc : R.cells = 0 := by rw [hR]; rfl
  have hRs : R.slots = 0 := by rw [hR]; rfl
  have hS : va_S A s.heap H locs := by rw [hH, hlo]; exact va_S.rf
  rw [← hH] at hP
  obtain ⟨Q, hQ⟩ : ∃ q : Int32 → S_ → Prop, q = (post_X8_sheet k_ lane_ n_ ag σ0) := ⟨_, rfl⟩
  rw [← hQ] at hv
  have hinX8 : ∀ w ∈ wsX80, w ∈ wsX8_sheet := by decide +kernel
  refine lv_aload_n hx hb dX8_sheet_0 rfl (lv_at hl 0 rfl) ?_
  refine lv_iconst (v := 0) hx hb dX8_sheet_1 (by decide) ?_
  refine va_put (ci := 8) (v := .int 0) (ty := .int) (C := RX8) (T := TX8) (N := 5) hx hb hts hinX8 tyX8 tyX8_ok nmX8 hown hK hP hD hS 0 (wC_0 cy ad σ0) rfl 4 (by decide) (hts (.fieldLink RX8 41 "TaleBans" "latestFault" "I") (List.mem_of_getElem? (i := 1) rfl)) (fun x h => h) rfl (by decide +kernel) rfl rfl (Nat.le_of_ble_eq_true rfl) dX8_sheet_2 (fun H locs hP hD hS => ?_)
  obtain ⟨σ1, e2⟩ : ∃ y : S_, y = wrI σ0 0 0 := ⟨_, rfl⟩
  have hP : va_P D vwCl (wC cy ad σ1) H := by rw [e2]; exact hP
  have hD : va_D A (wC cy ad σ1) := by rw [e2]; exact hD
  have hv := hv σ1 e2
  refine lv_aload_n hx hb dX8_sheet_5 rfl (lv_at hl 0 rfl) ?_
  refine lv_iload_n hx hb dX8_sheet_6 rfl (lv_at hl 1 rfl) ?_
  have hp := True.intro
  refine k_read_e (w := wC cy ad) (va_runV (As := [.int k_]) (rest := []) ⟨hx, hb, hml, hown, hts⟩ (h_X8_sheetAt D cy ad A k_ σ1 hp) (cwV 1 hts gX8_sheet_X8_sheetAt rfl rfl rfl (by decide +kernel) ⟨le_R hRf (Nat.le_of_ble_eq_true rfl), le_R hRl (Nat.le_of_ble_eq_true rfl)⟩) ⟨(fun a U g mk q => ⟨q.1, q.2.blind⟩), va_recv hK hP (ci := 8) (q0 := 0) rfl (wC_0 cy ad σ1), (fun U hU hW => ⟨rfl, WdC.pre hP hK hD hN hU hW⟩)⟩ rfl rfl hl.1 rfl (lv_room (Nat.le_of_ble_eq_true rfl)) dX8_sheet_7 ⟨le_R hRc (Nat.le_refl 0), le_R hRs (Nat.le_refl 0)⟩) hS (fun r H locs hr1 hP hS => ?_)
  subst hr1
  cases o4 : (fn_X8_sheetAt k_ σ1) with
  | none =>
    have hv := hv.1 o4
    refine W_top (v' := .null) rfl ?_
    refine lv_astoreN (lv' := [(4, .null), (0, .ref (ad 0)), (1, .int k_), (2, .int lane_), (3, .int n_)]) hx hb dX8_sheet_10 hl (by decide) rfl (fun ls hl => ?_)
    refine lv_aloadN hx hb dX8_sheet_12 (lv_at hl 0 rfl) ?_
    refine lv_ifnonnullN hx hb dX8_sheet_14 ?_
    refine lv_iconst (v := (-1)) hx hb dX8_sheet_17 (by decide) ?_
    rw [hZ]; rw [hQ] at hv
    exact W.iret (v := (-1)) hx hb hr (fun t ht hW => ⟨⟨(-1), σ1, rfl, hv, ⟨P_of ht hP, hD⟩⟩, hS.F ht⟩) hS.2.2 dX8_sheet_18
  | some j3 =>
    obtain ⟨hj_j3, hv⟩ := hv.2 j3 o4
    refine W_top (v' := .ref (ad (2 + 2 * j3))) rfl ?_
    refine lv_astore (lv' := [(4, .ref (ad (2 + 2 * j3))), (0, .ref (ad 0)), (1, .int k_), (2, .int lane_), (3, .int n_)]) hx hb dX8_sheet_10 hl (by decide) rfl (fun ls hl => ?_)
    refine lv_aload hx hb dX8_sheet_12 (lv_at hl 0 rfl) ?_
    refine lv_ifnonnull (tgt := 19) hx hb dX8_sheet_14 (by decide) ?_
    refine lv_iload_n hx hb dX8_sheet_19 rfl (lv_at hl 3 rfl) ?_
    refine lv_iconst (v := 3) hx hb dX8_sheet_20 (by decide) ?_
    refine k_pure_i (va_runS (As := [.int lane_, .int 3]) (rest := []) ⟨hx, hb, hml, hown, hts⟩ (h_X8_isOneOf lane_ 3) (va_cwS 2 hts gX8_sheet_X8_isOneOf rfl rfl rfl (by decide +kernel) ⟨le_R hRf (Nat.le_of_ble_eq_true rfl), le_R hRl (Nat.le_of_ble_eq_true rfl)⟩) ⟨(fun a U g mk q => ⟨q.1, trivial⟩), (fun U hU hW => ⟨rfl, trivial⟩)⟩ rfl rfl hl.1 rfl (lv_room (Nat.le_of_ble_eq_true rfl)) dX8_sheet_21 ⟨le_R hRc (Nat.le_refl 0), le_R hRs (Nat.le_refl 0)⟩) hS hP (fun r H locs hr1 hP hS => ?_)
    subst hr1
    refine lv_if_eq (tgt := 33) hx hb dX8_sheet_24 (by decide) (fun c10 => ?_) (fun c10 => ?_)
    · have hv := hv.1 c10
      refine lv_bipush (v := (-2)) hx hb dX8_sheet_33 (by decide) ?_
      rw [hZ]; rw [hQ] at hv
      exact W.iret (v := (-2)) hx hb hr (fun t ht hW => ⟨⟨(-2), σ1, rfl, hv, ⟨P_of ht hP, hD⟩⟩, hS.F ht⟩) hS.2.2 dX8_sheet_35
    · have hv := hv.2 c10
      refine lv_iload_n hx hb dX8_sheet_27 rfl (lv_at hl 4 rfl) ?_
      refine lv_bipush (v := 60) hx hb dX8_sheet_28 (by decide) ?_
      refine lv_icmp_le (tgt := 36) hx hb dX8_sheet_30 (by decide) (fun c9 => ?_) (fun c9 => ?_)
      · have hv := hv.1 c9
        refine lv_iload_n hx hb dX8_sheet_36 rfl (lv_at hl 4 rfl) ?_
        refine lv_if_ge (tgt := 46) hx hb dX8_sheet_37 (by decide) (fun c8 => ?_) (fun c8 => ?_)
        · have hv := hv.1 c8
          refine lv_aload hx hb dX8_sheet_46 (lv_at hl 0 rfl) ?_
          refine lv_iload_n hx hb dX8_sheet_48 rfl (lv_at hl 3 rfl) ?_
          refine lv_iload_n hx hb dX8_sheet_49 rfl (lv_at hl 4 rfl) ?_
          obtain ⟨hp, hv⟩ := hv
          refine k_rel_v (w := wC cy ad) (va_runVN (As := [.int lane_, .int n_]) (rest := []) ⟨hx, hb, hml, hown, hts⟩ (h_X5_renew D cy ad A j3 lane_ n_ σ1 hj_j3 hp) ⟨va_cnB 2 hts gX8_sheet_X5_renew_n197 rfl rfl rfl (nwm_62 hN) (hts (.initialized RX5) (List.mem_of_getElem? (i := 16) rfl)) (by decide +kernel) ⟨le_R hRf (Nat.le_of_ble_eq_true rfl), le_R hRl (Nat.le_of_ble_eq_true rfl)⟩, (hts (.instanceMethod yX5_renew) (List.mem_of_getElem? (i := 15) rfl)), (hts (.selects RX5 yX5_renew yX5_renew) (List.mem_of_getElem? (i := 17) rfl))⟩ ⟨(fun a U g mk q => ⟨q.1, q.2.blind⟩), va_recv hK hP (ci := 5) (q0 := (2 + 2 * j3)) rfl (wC_sh cy ad σ1 hj_j3), (fun U hU hW => ⟨rfl, WdC.pre hP hK hD hN hU hW⟩)⟩ rfl rfl hl.1 rfl (lv_room (Nat.le_of_ble_eq_true rfl)) dX8_sheet_50 ⟨le_R hRc (Nat.le_refl 0), le_R hRs (Nat.le_refl 0)⟩) hS (fun σ5 H locs hr1 hP hD hS => ?_)
          have hv := hv σ5 hr1
          refine lv_iconst (v := 1) hx hb dX8_sheet_53 (by decide) ?_
          rw [hZ]; rw [hQ] at hv
          exact W.iret (v := 1) hx hb hr (fun t ht hW => ⟨⟨1, σ5, rfl, hv, ⟨P_of ht hP, hD⟩⟩, hS.F ht⟩) hS.2.2 dX8_sheet_54
        · have hv := hv.2 c8
          refine lv_aload_n hx hb dX8_sheet_40 rfl (lv_at hl 1 rfl) ?_
          refine lv_iconst (v := 4) hx hb dX8_sheet_41 (by decide) ?_
          have hp := True.intro
          refine k_rel_i (w := wC cy ad) (va_runV (As := [.int 4]) (rest := []) ⟨hx, hb, hml, hown, hts⟩ (h_X8_faulted D cy ad A 4 σ1 hp) (cwV 1 hts gX8_sheet_X8_faulted rfl rfl rfl (by decide +kernel) ⟨le_R hRf (Nat.le_of_ble_eq_true rfl), le_R hRl (Nat.le_of_ble_eq_true rfl)⟩) ⟨(fun a U g mk q => ⟨q.1, q.2.blind⟩), va_recv hK hP (ci := 8) (q0 := 0) rfl (wC_0 cy ad σ1), (fun U hU hW => ⟨rfl, WdC.pre hP hK hD hN hU hW⟩)⟩ rfl rfl hl.1 rfl (lv_room (Nat.le_of_ble_eq_true rfl)) dX8_sheet_42 ⟨le_R hRc (Nat.le_refl 0), le_R hRs (Nat.le_refl 0)⟩) hS (fun r7 σ6 H locs hr1 hP hD hS => ?_)
          have hv := hv r7 σ6 hr1
          rw [hZ]; rw [hQ] at hv
          exact W.iret (v := r7) hx hb hr (fun t ht hW => ⟨⟨r7, σ6, rfl, hv, ⟨P_of ht hP, hD⟩⟩, hS.F ht⟩) hS.2.2 dX8_sheet_45
      · have hv := hv.2 c9
        refine lv_bipush (v := (-2)) hx hb dX8_sheet_33 (by decide) ?_
        rw [hZ]; rw [hQ] at hv
        exact W.iret (v := (-2)) hx hb hr (fun t ht hW => ⟨⟨(-2), σ1, rfl, hv, ⟨P_of ht hP, hD⟩⟩, hS.F ht⟩) hS.2.2 dX8_sheet_35
set_option maxHeartbeats 4000000 in
set_option maxRecDepth 100000 in
theorem wk_X8_lose (l : Launch) (h_X5_clear : Ct_X5_clear l) (h_X5_hasNothing : Ct_X5_hasNothing l) (h_X8_sheetAt : Ct_X8_sheetAt l) (sp : Sp_X8_lose) : Ct_X8_lose l := by
  intro D cy ad A k_ ag σ0  hpre
  refine Met.ofW (cc := cX8_lose) (maxL := 3) (ret := (some .int)) (by decide) rfl ?_
  intro p e s m args below meth c s₁ B hml hv0
  obtain ⟨rfl, hP, hK, hD, hN⟩ := hv0
  have hx := B.exec
  have hb := B.bytes
  have hr := B.returns
  have hts := atoms_spec (ws := wsX8_lose) B.pre
  have hown : s.vm.findClass RX8 = some m.cls := findClass_of_methodNamed B.named
  have hlocks := B.notSynchronized
  have hv := sp k_ ag σ0 hpre
  have hl := lv_entry ([.ref (ad 0), .int k_]) (n := 3) (Nat.le_of_ble_eq_true rfl)
  rw [lg_entry_eq]
  generalize (lg_sl ([.ref (ad 0), .int k_]) ++ List.replicate (3 - (lg_sl ([.ref (ad 0), .int k_])).length) Slot.unset).toArray = ls at hl ⊢
  have hl : lv_has ls 3 [(0, .ref (ad 0)), (1, .int k_)] := hl
  refine W_gen (fun R Z H locs hR hZ hH hlo => ?_)
  have hRf : R.frames = 2 := by rw [hR]; rfl
  have hRl : R.locals = 42 := by rw [hR]; rfl
  have hRc : R.cells = 0 := by rw [hR]; rfl
  have hRs : R.slots = 0 := by rw [hR]; rfl
  have hS : va_S A s.heap H locs := by rw [hH, hlo]; exact va_S.rf
  rw [← hH] at hP
  obtain ⟨Q, hQ⟩ : ∃ q : Int32 → S_ → Prop, q = (post_X8_lose k_ ag σ0) := ⟨_, rfl⟩
  rw [← hQ] at hv
  refine lv_aload_n hx hb dX8_lose_0 rfl (lv_at hl 0 rfl) ?_
  refine lv_iload_n hx hb dX8_lose_1 rfl (lv_at hl 1 rfl) ?_
  have hp := True.intro
  refine k_read_e (w := wC cy ad) (va_runV (As := [.int k_]) (rest := []) ⟨hx, hb, hml, hown, hts⟩ (h_X8_sheetAt D cy ad A k_ σ0 hp) (cwV 1 hts gX8_lose_X8_sheetAt rfl rfl rfl (by decide +kernel) ⟨le_R hRf (Nat.le_of_ble_eq_true rfl), le_R hRl (Nat.le_of_ble_eq_true rfl)⟩) ⟨(fun a U g mk q => ⟨q.1, q.2.blind⟩), va_recv hK hP (ci := 8) (q0 := 0) rfl (wC_0 cy ad σ0), (fun U hU hW => ⟨rfl, WdC.pre hP hK hD hN hU hW⟩)⟩ rfl rfl hl.1 rfl (lv_room (Nat.le_of_ble_eq_true rfl)) dX8_lose_2 ⟨le_R hRc (Nat.le_refl 0), le_R hRs (Nat.le_refl 0)⟩) hS (fun r H locs hr1 hP hS => ?_)
  subst hr1
  cases o2 : (fn_X8_sheetAt k_ σ0) with
  | none =>
    have hv := hv.1 o2
    refine W_top (v' := .null) rfl ?_
    refine lv_astore_nN (lv' := [(2, .null), (0, .ref (ad 0)), (1, .int k_)]) hx hb dX8_lose_5 rfl hl (by decide) rfl (fun ls hl => ?_)
    refine lv_aload_nN hx hb dX8_lose_6 rfl (lv_at hl 0 rfl) ?_
    refine lv_ifnonnullN hx hb dX8_lose_7 ?_
    refine lv_iconst (v := (-1)) hx hb dX8_lose_10 (by decide) ?_
    rw [hZ]; rw [hQ] at hv
    exact W.iret (v := (-1)) hx hb hr (fun t ht hW => ⟨⟨(-1), σ0, rfl, hv, ⟨P_of ht hP, hD⟩⟩, hS.F ht⟩) hS.2.2 dX8_lose_11
  | some j1 =>
    obtain ⟨hj_j1, hv⟩ := hv.2 j1 o2
    refine W_top (v' := .ref (ad (2 + 2 * j1))) rfl ?_
    refine lv_astore_n (lv' := [(2, .ref (ad (2 + 2 * j1))), (0, .ref (ad 0)), (1, .int k_)]) hx hb dX8_lose_5 rfl hl (by decide) rfl (fun ls hl => ?_)
    refine lv_aload_n hx hb dX8_lose_6 rfl (lv_at hl 0 rfl) ?_
    refine lv_ifnonnull (tgt := 12) hx hb dX8_lose_7 (by decide) ?_
    refine lv_aload_n hx hb dX8_lose_12 rfl (lv_at hl 0 rfl) ?_
    have hp := True.intro
    refine k_read_i (w := wC cy ad) (va_runVN (As := []) (rest := []) ⟨hx, hb, hml, hown, hts⟩ (h_X5_hasNothing D cy ad A j1 σ0 hj_j1 hp) ⟨va_cnB 0 hts gX8_lose_X5_hasNothing_n200 rfl rfl rfl (nwm_63 hN) (hts (.initialized RX5) (List.mem_of_getElem? (i := 11) rfl)) (by decide +kernel) ⟨le_R hRf (Nat.le_of_ble_eq_true rfl), le_R hRl (Nat.le_of_ble_eq_true rfl)⟩, (hts (.instanceMethod yX5_hasNothing) (List.mem_of_getElem? (i := 10) rfl)), (hts (.selects RX5 yX5_hasNothing yX5_hasNothing) (List.mem_of_getElem? (i := 12) rfl))⟩ ⟨(fun a U g mk q => ⟨q.1, q.2.blind⟩), va_recv hK hP (ci := 5) (q0 := (2 + 2 * j1)) rfl (wC_sh cy ad σ0 hj_j1), (fun U hU hW => ⟨rfl, WdC.pre hP hK hD hN hU hW⟩)⟩ rfl rfl hl.1 rfl (lv_room (Nat.le_of_ble_eq_true rfl)) dX8_lose_13 ⟨le_R hRc (Nat.le_refl 0), le_R hRs (Nat.le_refl 0)⟩) hS (fun r H locs hr1 hP hS => ?_)
    subst hr1
    refine lv_if_eq (tgt := 21) hx hb dX8_lose_16 (by decide) (fun c4 => ?_) (fun c4 => ?_)
    · have hv := hv.1 c4
      refine lv_aload_n hx hb dX8_lose_21 rfl (lv_at hl 0 rfl) ?_
      have hp := True.intro
      refine k_rel_v (w := wC cy ad) (va_runVN (As := []) (rest := []) ⟨hx, hb, hml, hown, hts⟩ (h_X5_clear D cy ad A j1 σ0 hj_j1 hp) ⟨va_cnB 0 hts gX8_lose_X5_clear_n203 rfl rfl rfl (nwm_64 hN) (hts (.initialized RX5) (List.mem_of_getElem? (i := 11) rfl)) (by decide +kernel) ⟨le_R hRf (Nat.le_of_ble_eq_true rfl), le_R hRl (Nat.le_of_ble_eq_true rfl)⟩, (hts (.instanceMethod yX5_clear) (List.mem_of_getElem? (i := 15) rfl)), (hts (.selects RX5 yX5_clear yX5_clear) (List.mem_of_getElem? (i := 16) rfl))⟩ ⟨(fun a U g mk q => ⟨q.1, q.2.blind⟩), va_recv hK hP (ci := 5) (q0 := (2 + 2 * j1)) rfl (wC_sh cy ad σ0 hj_j1), (fun U hU hW => ⟨rfl, WdC.pre hP hK hD hN hU hW⟩)⟩ rfl rfl hl.1 rfl (lv_room (Nat.le_of_ble_eq_true rfl)) dX8_lose_22 ⟨le_R hRc (Nat.le_refl 0), le_R hRs (Nat.le_refl 0)⟩) hS (fun σ3 H locs hr1 hP hD hS => ?_)
      have hv := hv σ3 hr1
      refine lv_iconst (v := 1) hx hb dX8_lose_25 (by decide) ?_
      rw [hZ]; rw [hQ] at hv
      exact W.iret (v := 1) hx hb hr (fun t ht hW => ⟨⟨1, σ3, rfl, hv, ⟨P_of ht hP, hD⟩⟩, hS.F ht⟩) hS.2.2 dX8_lose_26
    · have hv := hv.2 c4
      refine lv_iconst (v := 0) hx hb dX8_lose_19 (by decide) ?_
      rw [hZ]; rw [hQ] at hv
      exact W.iret (v := 0) hx hb hr (fun t ht hW => ⟨⟨0, σ0, rfl, hv, ⟨P_of ht hP, hD⟩⟩, hS.F ht⟩) hS.2.2 dX8_lose_20
set_option maxHeartbeats 4000000 in
set_option maxRecDepth 100000 in
theorem wk_X8_put (l : Launch) (h_X5_has : Ct_X5_has l) (h_X5_hasNothing : Ct_X5_hasNothing l) (h_X5_set : Ct_X5_set l) (h_X8_faulted : Ct_X8_faulted l) (h_X8_sheetAt : Ct_X8_sheetAt l) (sp : Sp_X8_put) : Ct_X8_put l := by
  intro D cy ad A k_ i_ v_ ag σ0  hpre
  refine Met.ofW (cc := cX8_put) (maxL := 5) (ret := (some .int)) (by decide) rfl ?_
  intro p e s m args below meth c s₁ B hml hv0
  obtain ⟨rfl, hP, hK, hD, hN⟩ := hv0
  have hx := B.exec
  have hb := B.bytes
  have hr := B.returns
  have hts := atoms_spec (ws := wsX8_put) B.pre
  have hown : s.vm.findClass RX8 = some m.cls := findClass_of_methodNamed B.named
  have hlocks := B.notSynchronized
  have hv := sp k_ i_ v_ ag σ0 hpre
  have hl := lv_entry ([.ref (ad 0), .int k_, .int i_, .int v_]) (n := 5) (Nat.le_of_ble_eq_true rfl)
  rw [lg_entry_eq]
  generalize (lg_sl ([.ref (ad 0), .int k_, .int i_, .int v_]) ++ List.replicate (5 - (lg_sl ([.ref (ad 0), .int k_, .int i_, .int v_])).length) Slot.unset).toArray = ls at hl ⊢
  have hl : lv_has ls 5 [(0, .ref (ad 0)), (1, .int k_), (2, .int i_), (3, .int v_)] := hl
  refine W_gen (fun R Z H locs hR hZ hH hlo => ?_)
  have hRf : R.frames = 3 := by rw [hR]; rfl
  have hRl : R.locals = 64 := by rw [hR]; rfl
  have hRc : R.cells = 0 := by rw [hR]; rfl
  have hRs : R.slots = 0 := by rw [hR]; rfl
  have hS : va_S A s.heap H locs := by rw [hH, hlo]; exact va_S.rf
  rw [← hH] at hP
  obtain ⟨Q, hQ⟩ : ∃ q : Int32 → S_ → Prop, q = (post_X8_put k_ i_ v_ ag σ0) := ⟨_, rfl⟩
  rw [← hQ] at hv
  have hinX8 : ∀ w ∈ wsX80, w ∈ wsX8_put := by decide +kernel
  refine lv_aload_n hx hb dX8_put_0 rfl (lv_at hl 0 rfl) ?_
  refine lv_iconst (v := 0) hx hb dX8_put_1 (by decide) ?_
  refine va_put (ci := 8) (v := .int 0) (ty := .int) (C := RX8) (T := TX8) (N := 5) hx hb hts hinX8 tyX8 tyX8_ok nmX8 hown hK hP hD hS 0 (wC_0 cy ad σ0) rfl 4 (by decide) (hts (.fieldLink RX8 41 "TaleBans" "latestFault" "I") (List.mem_of_getElem? (i := 1) rfl)) (fun x h => h) rfl (by decide +kernel) rfl rfl (Nat.le_of_ble_eq_true rfl) dX8_put_2 (fun H locs hP hD hS => ?_)
  obtain ⟨σ1, e2⟩ : ∃ y : S_, y = wrI σ0 0 0 := ⟨_, rfl⟩
  have hP : va_P D vwCl (wC cy ad σ1) H := by rw [e2]; exact hP
  have hD : va_D A (wC cy ad σ1) := by rw [e2]; exact hD
  have hv := hv σ1 e2
  refine lv_aload_n hx hb dX8_put_5 rfl (lv_at hl 0 rfl) ?_
  refine lv_iload_n hx hb dX8_put_6 rfl (lv_at hl 1 rfl) ?_
  have hp := True.intro
  refine k_read_e (w := wC cy ad) (va_runV (As := [.int k_]) (rest := []) ⟨hx, hb, hml, hown, hts⟩ (h_X8_sheetAt D cy ad A k_ σ1 hp) (cwV 1 hts gX8_put_X8_sheetAt rfl rfl rfl (by decide +kernel) ⟨le_R hRf (Nat.le_of_ble_eq_true rfl), le_R hRl (Nat.le_of_ble_eq_true rfl)⟩) ⟨(fun a U g mk q => ⟨q.1, q.2.blind⟩), va_recv hK hP (ci := 8) (q0 := 0) rfl (wC_0 cy ad σ1), (fun U hU hW => ⟨rfl, WdC.pre hP hK hD hN hU hW⟩)⟩ rfl rfl hl.1 rfl (lv_room (Nat.le_of_ble_eq_true rfl)) dX8_put_7 ⟨le_R hRc (Nat.le_refl 0), le_R hRs (Nat.le_refl 0)⟩) hS (fun r H locs hr1 hP hS => ?_)
  subst hr1
  cases o4 : (fn_X8_sheetAt k_ σ1) with
  | none =>
    have hv := hv.1 o4
    refine W_top (v' := .null) rfl ?_
    refine lv_astoreN (lv' := [(4, .null), (0, .ref (ad 0)), (1, .int k_), (2, .int i_), (3, .int v_)]) hx hb dX8_put_10 hl (by decide) rfl (fun ls hl => ?_)
    refine lv_aloadN hx hb dX8_put_12 (lv_at hl 0 rfl) ?_
    refine lv_ifnonnullN hx hb dX8_put_14 ?_
    refine lv_iconst (v := (-1)) hx hb dX8_put_17 (by decide) ?_
    rw [hZ]; rw [hQ] at hv
    exact W.iret (v := (-1)) hx hb hr (fun t ht hW => ⟨⟨(-1), σ1, rfl, hv, ⟨P_of ht hP, hD⟩⟩, hS.F ht⟩) hS.2.2 dX8_put_18
  | some j3 =>
    obtain ⟨hj_j3, hv⟩ := hv.2 j3 o4
    refine W_top (v' := .ref (ad (2 + 2 * j3))) rfl ?_
    refine lv_astore (lv' := [(4, .ref (ad (2 + 2 * j3))), (0, .ref (ad 0)), (1, .int k_), (2, .int i_), (3, .int v_)]) hx hb dX8_put_10 hl (by decide) rfl (fun ls hl => ?_)
    refine lv_aload hx hb dX8_put_12 (lv_at hl 0 rfl) ?_
    refine lv_ifnonnull (tgt := 19) hx hb dX8_put_14 (by decide) ?_
    refine lv_aload hx hb dX8_put_19 (lv_at hl 0 rfl) ?_
    have hp := True.intro
    refine k_read_i (w := wC cy ad) (va_runVN (As := []) (rest := []) ⟨hx, hb, hml, hown, hts⟩ (h_X5_hasNothing D cy ad A j3 σ1 hj_j3 hp) ⟨va_cnB 0 hts gX8_put_X5_hasNothing_n200 rfl rfl rfl (nwm_63 hN) (hts (.initialized RX5) (List.mem_of_getElem? (i := 12) rfl)) (by decide +kernel) ⟨le_R hRf (Nat.le_of_ble_eq_true rfl), le_R hRl (Nat.le_of_ble_eq_true rfl)⟩, (hts (.instanceMethod yX5_hasNothing) (List.mem_of_getElem? (i := 11) rfl)), (hts (.selects RX5 yX5_hasNothing yX5_hasNothing) (List.mem_of_getElem? (i := 13) rfl))⟩ ⟨(fun a U g mk q => ⟨q.1, q.2.blind⟩), va_recv hK hP (ci := 5) (q0 := (2 + 2 * j3)) rfl (wC_sh cy ad σ1 hj_j3), (fun U hU hW => ⟨rfl, WdC.pre hP hK hD hN hU hW⟩)⟩ rfl rfl hl.1 rfl (lv_room (Nat.le_of_ble_eq_true rfl)) dX8_put_21 ⟨le_R hRc (Nat.le_refl 0), le_R hRs (Nat.le_refl 0)⟩) hS (fun r H locs hr1 hP hS => ?_)
    subst hr1
    refine lv_if_eq (tgt := 33) hx hb dX8_put_24 (by decide) (fun c11 => ?_) (fun c11 => ?_)
    · have hv := hv.1 c11
      refine lv_aload hx hb dX8_put_33 (lv_at hl 0 rfl) ?_
      refine lv_iload_n hx hb dX8_put_35 rfl (lv_at hl 3 rfl) ?_
      have hp := True.intro
      refine k_read_i (w := wC cy ad) (va_runVN (As := [.int i_]) (rest := []) ⟨hx, hb, hml, hown, hts⟩ (h_X5_has D cy ad A j3 i_ σ1 hj_j3 hp) ⟨va_cnB 1 hts gX8_put_X5_has_n206 rfl rfl rfl (nwm_65 hN) (hts (.initialized RX5) (List.mem_of_getElem? (i := 12) rfl)) (by decide +kernel) ⟨le_R hRf (Nat.le_of_ble_eq_true rfl), le_R hRl (Nat.le_of_ble_eq_true rfl)⟩, (hts (.instanceMethod yX5_has) (List.mem_of_getElem? (i := 20) rfl)), (hts (.selects RX5 yX5_has yX5_has) (List.mem_of_getElem? (i := 21) rfl))⟩ ⟨(fun a U g mk q => ⟨q.1, q.2.blind⟩), va_recv hK hP (ci := 5) (q0 := (2 + 2 * j3)) rfl (wC_sh cy ad σ1 hj_j3), (fun U hU hW => ⟨rfl, WdC.pre hP hK hD hN hU hW⟩)⟩ rfl rfl hl.1 rfl (lv_room (Nat.le_of_ble_eq_true rfl)) dX8_put_36 ⟨le_R hRc (Nat.le_refl 0), le_R hRs (Nat.le_refl 0)⟩) hS (fun r H locs hr1 hP hS => ?_)
      subst hr1
      refine lv_if_ne (tgt := 48) hx hb dX8_put_39 (by decide) (fun c8 => ?_) (fun c8 => ?_)
      · have hv := hv.1 c8
        refine lv_aload hx hb dX8_put_48 (lv_at hl 0 rfl) ?_
        refine lv_iload_n hx hb dX8_put_50 rfl (lv_at hl 3 rfl) ?_
        refine lv_iload_n hx hb dX8_put_51 rfl (lv_at hl 4 rfl) ?_
        obtain ⟨hp, hv⟩ := hv
        refine k_rel_v (w := wC cy ad) (va_runVN (As := [.int i_, .int v_]) (rest := []) ⟨hx, hb, hml, hown, hts⟩ (h_X5_set D cy ad A j3 i_ v_ σ1 hj_j3 hp) ⟨va_cnB 2 hts gX8_put_X5_set_n207 rfl rfl rfl (nwm_66 hN) (hts (.initialized RX5) (List.mem_of_getElem? (i := 12) rfl)) (by decide +kernel) ⟨le_R hRf (Nat.le_of_ble_eq_true rfl), le_R hRl (Nat.le_of_ble_eq_true rfl)⟩, (hts (.instanceMethod yX5_set) (List.mem_of_getElem? (i := 24) rfl)), (hts (.selects RX5 yX5_set yX5_set) (List.mem_of_getElem? (i := 25) rfl))⟩ ⟨(fun a U g mk q => ⟨q.1, q.2.blind⟩), va_recv hK hP (ci := 5) (q0 := (2 + 2 * j3)) rfl (wC_sh cy ad σ1 hj_j3), (fun U hU hW => ⟨rfl, WdC.pre hP hK hD hN hU hW⟩)⟩ rfl rfl hl.1 rfl (lv_room (Nat.le_of_ble_eq_true rfl)) dX8_put_52 ⟨le_R hRc (Nat.le_refl 0), le_R hRs (Nat.le_refl 0)⟩) hS (fun σ5 H locs hr1 hP hD hS => ?_)
        have hv := hv σ5 hr1
        refine lv_iconst (v := 1) hx hb dX8_put_55 (by decide) ?_
        rw [hZ]; rw [hQ] at hv
        exact W.iret (v := 1) hx hb hr (fun t ht hW => ⟨⟨1, σ5, rfl, hv, ⟨P_of ht hP, hD⟩⟩, hS.F ht⟩) hS.2.2 dX8_put_56
      · have hv := hv.2 c8
        refine lv_aload_n hx hb dX8_put_42 rfl (lv_at hl 1 rfl) ?_
        refine lv_iconst (v := 3) hx hb dX8_put_43 (by decide) ?_
        have hp := True.intro
        refine k_rel_i (w := wC cy ad) (va_runV (As := [.int 3]) (rest := []) ⟨hx, hb, hml, hown, hts⟩ (h_X8_faulted D cy ad A 3 σ1 hp) (cwV 1 hts gX8_put_X8_faulted rfl rfl rfl (by decide +kernel) ⟨le_R hRf (Nat.le_of_ble_eq_true rfl), le_R hRl (Nat.le_of_ble_eq_true rfl)⟩) ⟨(fun a U g mk q => ⟨q.1, q.2.blind⟩), va_recv hK hP (ci := 8) (q0 := 0) rfl (wC_0 cy ad σ1), (fun U hU hW => ⟨rfl, WdC.pre hP hK hD hN hU hW⟩)⟩ rfl rfl hl.1 rfl (lv_room (Nat.le_of_ble_eq_true rfl)) dX8_put_44 ⟨le_R hRc (Nat.le_refl 0), le_R hRs (Nat.le_refl 0)⟩) hS (fun r7 σ6 H locs hr1 hP hD hS => ?_)
        have hv := hv r7 σ6 hr1
        rw [hZ]; rw [hQ] at hv
        exact W.iret (v := r7) hx hb hr (fun t ht hW => ⟨⟨r7, σ6, rfl, hv, ⟨P_of ht hP, hD⟩⟩, hS.F ht⟩) hS.2.2 dX8_put_47
    · have hv := hv.2 c11
      refine lv_aload_n hx hb dX8_put_27 rfl (lv_at hl 1 rfl) ?_
      refine lv_iconst (v := 1) hx hb dX8_put_28 (by decide) ?_
      have hp := True.intro
      refine k_rel_i (w := wC cy ad) (va_runV (As := [.int 1]) (rest := []) ⟨hx, hb, hml, hown, hts⟩ (h_X8_faulted D cy ad A 1 σ1 hp) (cwV 1 hts gX8_put_X8_faulted rfl rfl rfl (by decide +kernel) ⟨le_R hRf (Nat.le_of_ble_eq_true rfl), le_R hRl (Nat.le_of_ble_eq_true rfl)⟩) ⟨(fun a U g mk q => ⟨q.1, q.2.blind⟩), va_recv hK hP (ci := 8) (q0 := 0) rfl (wC_0 cy ad σ1), (fun U hU hW => ⟨rfl, WdC.pre hP hK hD hN hU hW⟩)⟩ rfl rfl hl.1 rfl (lv_room (Nat.le_of_ble_eq_true rfl)) dX8_put_29 ⟨le_R hRc (Nat.le_refl 0), le_R hRs (Nat.le_refl 0)⟩) hS (fun r10 σ9 H locs hr1 hP hD hS => ?_)
      have hv := hv r10 σ9 hr1
      rw [hZ]; rw [hQ] at hv
      exact W.iret (v := r10) hx hb hr (fun t ht hW => ⟨⟨r10, σ9, rfl, hv, ⟨P_of ht hP, hD⟩⟩, hS.F ht⟩) hS.2.2 dX8_put_32
set_option maxHeartbeats 4000000 in
set_option maxRecDepth 100000 in
theorem wk_X8_cell (l : Launch) (h_X5_at : Ct_X5_at l) (h_X5_faultOfTaking : Ct_X5_faultOfTaking l) (h_X8_isOneOf : Ct_X8_isOneOf l) (h_X8_sheetAt : Ct_X8_sheetAt l) (sp : Sp_X8_cell) : Ct_X8_cell l := by
  intro D cy ad A k_ i_ lane_ ag σ0  hpre
  refine Met.ofW (cc := cX8_cell) (maxL := 5) (ret := (some .long)) (by decide) rfl ?_
  intro p e s m args below meth c s₁ B hml hv0
  obtain ⟨rfl, hP, hK, hD, hN⟩ := hv0
  have hx := B.exec
  have hb := B.bytes
  have hr := B.returns
  have hts := atoms_spec (ws := wsX8_cell) B.pre
  have hown : s.vm.findClass RX8 = some m.cls := findClass_of_methodNamed B.named
  have hlocks := B.notSynchronized
  have hv := sp k_ i_ lane_ ag σ0 hpre
  have hl := lv_entry ([.ref (ad 0), .int k_, .int i_, .int lane_]) (n := 5) (Nat.le_of_ble_eq_true rfl)
  rw [lg_entry_eq]
  generalize (lg_sl ([.ref (ad 0), .int k_, .int i_, .int lane_]) ++ List.replicate (5 - (lg_sl ([.ref (ad 0), .int k_, .int i_, .int lane_])).length) Slot.unset).toArray = ls at hl ⊢
  have hl : lv_has ls 5 [(0, .ref (ad 0)), (1, .int k_), (2, .int i_), (3, .int lane_)] := hl
  refine W_gen (fun R Z H locs hR hZ hH hlo => ?_)
  have hRf : R.frames = 3 := by rw [hR]; rfl
  have hRl : R.locals = 63 := by rw [hR]; rfl
  have hRc : R.cells = 0 := by rw [hR]; rfl
  have hRs : R.slots = 0 := by rw [hR]; rfl
  have hS : va_S A s.heap H locs := by rw [hH, hlo]; exact va_S.rf
  rw [← hH] at hP
  obtain ⟨Q, hQ⟩ : ∃ q : Int64 → S_ → Prop, q = (post_X8_cell k_ i_ lane_ ag σ0) := ⟨_, rfl⟩
  rw [← hQ] at hv
  have hinX8 : ∀ w ∈ wsX80, w ∈ wsX8_cell := by decide +kernel
  refine lv_aload_n hx hb dX8_cell_0 rfl (lv_at hl 0 rfl) ?_
  refine lv_iconst (v := 0) hx hb dX8_cell_1 (by decide) ?_
  refine va_put (ci := 8) (v := .int 0) (ty := .int) (C := RX8) (T := TX8) (N := 5) hx hb hts hinX8 tyX8 tyX8_ok nmX8 hown hK hP hD hS 0 (wC_0 cy ad σ0) rfl 4 (by decide) (hts (.fieldLink RX8 41 "TaleBans" "latestFault" "I") (List.mem_of_getElem? (i := 1) rfl)) (fun x h => h) rfl (by decide +kernel) rfl rfl (Nat.le_of_ble_eq_true rfl) dX8_cell_2 (fun H locs hP hD hS => ?_)
  obtain ⟨σ1, e2⟩ : ∃ y : S_, y = wrI σ0 0 0 := ⟨_, rfl⟩
  have hP : va_P D vwCl (wC cy ad σ1) H := by rw [e2]; exact hP
  have hD : va_D A (wC cy ad σ1) := by rw [e2]; exact hD
  have hv := hv σ1 e2
  refine lv_aload_n hx hb dX8_cell_5 rfl (lv_at hl 0 rfl) ?_
  refine lv_iload_n hx hb dX8_cell_6 rfl (lv_at hl 1 rfl) ?_
  have hp := True.intro
  refine k_read_e (w := wC cy ad) (va_runV (As := [.int k_]) (rest := []) ⟨hx, hb, hml, hown, hts⟩ (h_X8_sheetAt D cy ad A k_ σ1 hp) (cwV 1 hts gX8_cell_X8_sheetAt rfl rfl rfl (by decide +kernel) ⟨le_R hRf (Nat.le_of_ble_eq_true rfl), le_R hRl (Nat.le_of_ble_eq_true rfl)⟩) ⟨(fun a U g mk q => ⟨q.1, q.2.blind⟩), va_recv hK hP (ci := 8) (q0 := 0) rfl (wC_0 cy ad σ1), (fun U hU hW => ⟨rfl, WdC.pre hP hK hD hN hU hW⟩)⟩ rfl rfl hl.1 rfl (lv_room (Nat.le_of_ble_eq_true rfl)) dX8_cell_7 ⟨le_R hRc (Nat.le_refl 0), le_R hRs (Nat.le_refl 0)⟩) hS (fun r H locs hr1 hP hS => ?_)
  subst hr1
  cases o4 : (fn_X8_sheetAt k_ σ1) with
  | none =>
    have hv := hv.1 o4
    refine W_top (v' := .null) rfl ?_
    refine lv_astoreN (lv' := [(4, .null), (0, .ref (ad 0)), (1, .int k_), (2, .int i_), (3, .int lane_)]) hx hb dX8_cell_10 hl (by decide) rfl (fun ls hl => ?_)
    refine lv_aloadN hx hb dX8_cell_12 (lv_at hl 0 rfl) ?_
    refine lv_ifnullN (tgt := 25) hx hb dX8_cell_14 (by decide) ?_
    refine lv_ldc2 (v := (-9223372036854775808)) hx hb hown (hts (.constantLong RX8 195 (-9223372036854775808)) (List.mem_of_getElem? (i := 2) rfl)) dX8_cell_25 ?_
    rw [hZ]; rw [hQ] at hv
    exact W.lret (v := (-9223372036854775808)) hx hb hr (fun t ht hW => ⟨⟨(-9223372036854775808), σ1, rfl, hv, ⟨P_of ht hP, hD⟩⟩, hS.F ht⟩) hS.2.2 dX8_cell_28
  | some j3 =>
    obtain ⟨hj_j3, hv⟩ := hv.2 j3 o4
    refine W_top (v' := .ref (ad (2 + 2 * j3))) rfl ?_
    refine lv_astore (lv' := [(4, .ref (ad (2 + 2 * j3))), (0, .ref (ad 0)), (1, .int k_), (2, .int i_), (3, .int lane_)]) hx hb dX8_cell_10 hl (by decide) rfl (fun ls hl => ?_)
    refine lv_aload hx hb dX8_cell_12 (lv_at hl 0 rfl) ?_
    refine lv_ifnull hx hb dX8_cell_14 ?_
    refine lv_iload_n hx hb dX8_cell_17 rfl (lv_at hl 4 rfl) ?_
    refine lv_iconst (v := 3) hx hb dX8_cell_18 (by decide) ?_
    refine k_pure_i (va_runS (As := [.int lane_, .int 3]) (rest := []) ⟨hx, hb, hml, hown, hts⟩ (h_X8_isOneOf lane_ 3) (va_cwS 2 hts gX8_cell_X8_isOneOf rfl rfl rfl (by decide +kernel) ⟨le_R hRf (Nat.le_of_ble_eq_true rfl), le_R hRl (Nat.le_of_ble_eq_true rfl)⟩) ⟨(fun a U g mk q => ⟨q.1, trivial⟩), (fun U hU hW => ⟨rfl, trivial⟩)⟩ rfl rfl hl.1 rfl (lv_room (Nat.le_of_ble_eq_true rfl)) dX8_cell_19 ⟨le_R hRc (Nat.le_refl 0), le_R hRs (Nat.le_refl 0)⟩) hS hP (fun r H locs hr1 hP hS => ?_)
    subst hr1
    refine lv_if_ne (tgt := 29) hx hb dX8_cell_22 (by decide) (fun c8 => ?_) (fun c8 => ?_)
    · have hv := hv.1 c8
      refine lv_aload_n hx hb dX8_cell_29 rfl (lv_at hl 1 rfl) ?_
      refine lv_aload hx hb dX8_cell_30 (lv_at hl 0 rfl) ?_
      refine lv_iload_n hx hb dX8_cell_32 rfl (lv_at hl 4 rfl) ?_
      refine lv_iload_n hx hb dX8_cell_33 rfl (lv_at hl 3 rfl) ?_
      refine lv_iconst (v := 1) hx hb dX8_cell_34 (by decide) ?_
      have hp := True.intro
      refine k_read_i (w := wC cy ad) (va_runVN (As := [.int lane_, .int i_, .int 1]) (rest := [.ref (ad 0)]) ⟨hx, hb, hml, hown, hts⟩ (h_X5_faultOfTaking D cy ad A j3 lane_ i_ 1 σ1 hj_j3 hp) ⟨va_cnB 3 hts gX8_cell_X5_faultOfTaking_n53 rfl rfl rfl (nwm_24 hN) (hts (.initialized RX5) (List.mem_of_getElem? (i := 13) rfl)) (by decide +kernel) ⟨le_R hRf (Nat.le_of_ble_eq_true rfl), le_R hRl (Nat.le_of_ble_eq_true rfl)⟩, (hts (.instanceMethod yX5_faultOfTaking) (List.mem_of_getElem? (i := 12) rfl)), (hts (.selects RX5 yX5_faultOfTaking yX5_faultOfTaking) (List.mem_of_getElem? (i := 14) rfl))⟩ ⟨(fun a U g mk q => ⟨q.1, q.2.blind⟩), va_recv hK hP (ci := 5) (q0 := (2 + 2 * j3)) rfl (wC_sh cy ad σ1 hj_j3), (fun U hU hW => ⟨rfl, WdC.pre hP hK hD hN hU hW⟩)⟩ rfl rfl hl.1 rfl (lv_room (Nat.le_of_ble_eq_true rfl)) dX8_cell_35 ⟨le_R hRc (Nat.le_refl 0), le_R hRs (Nat.le_refl 0)⟩) hS (fun r H locs hr1 hP hS => ?_)
      subst hr1
      refine va_put (ci := 8) (v := .int (fn_X5_faultOfTaking j3 lane_ i_ 1 σ1)) (ty := .int) (C := RX8) (T := TX8) (N := 5) hx hb hts hinX8 tyX8 tyX8_ok nmX8 hown hK hP hD hS 0 (wC_0 cy ad σ1) rfl 4 (by decide) (hts (.fieldLink RX8 41 "TaleBans" "latestFault" "I") (List.mem_of_getElem? (i := 1) rfl)) (fun x h => h) rfl (by decide +kernel) rfl rfl (Nat.le_of_ble_eq_true rfl) dX8_cell_38 (fun H locs hP hD hS => ?_)
      obtain ⟨σ5, e6⟩ : ∃ y : S_, y = wrI σ1 0 (fn_X5_faultOfTaking j3 lane_ i_ 1 σ1) := ⟨_, rfl⟩
      have hP : va_P D vwCl (wC cy ad σ5) H := by rw [e6]; exact hP
      have hD : va_D A (wC cy ad σ5) := by rw [e6]; exact hD
      have hv := hv σ5 e6
      refine lv_aload_n hx hb dX8_cell_41 rfl (lv_at hl 1 rfl) ?_
      refine va_get (ci := 8) (v := .int (rdI σ5 0)) (C := RX8) (T := TX8) (N := 5) hx hb hts hinX8 hown hK hP 0 (wC_0 cy ad σ5) rfl 4 (by decide) (hts (.fieldLink RX8 41 "TaleBans" "latestFault" "I") (List.mem_of_getElem? (i := 1) rfl)) (fun x h => h) rfl dX8_cell_42 ?_
      refine lv_if_eq (tgt := 54) hx hb dX8_cell_45 (by decide) (fun c7 => ?_) (fun c7 => ?_)
      · have hv := hv.1 c7
        refine lv_aload hx hb dX8_cell_54 (lv_at hl 0 rfl) ?_
        refine lv_iload_n hx hb dX8_cell_56 rfl (lv_at hl 3 rfl) ?_
        obtain ⟨hp, hv⟩ := hv
        refine k_read_i (w := wC cy ad) (va_runVN (As := [.int i_]) (rest := []) ⟨hx, hb, hml, hown, hts⟩ (h_X5_at D cy ad A j3 i_ σ5 hj_j3 hp) ⟨va_cnB 1 hts gX8_cell_X5_at_n209 rfl rfl rfl (nwm_61 hN) (hts (.initialized RX5) (List.mem_of_getElem? (i := 13) rfl)) (by decide +kernel) ⟨le_R hRf (Nat.le_of_ble_eq_true rfl), le_R hRl (Nat.le_of_ble_eq_true rfl)⟩, (hts (.instanceMethod yX5_at) (List.mem_of_getElem? (i := 26) rfl)), (hts (.selects RX5 yX5_at yX5_at) (List.mem_of_getElem? (i := 27) rfl))⟩ ⟨(fun a U g mk q => ⟨q.1, q.2.blind⟩), va_recv hK hP (ci := 5) (q0 := (2 + 2 * j3)) rfl (wC_sh cy ad σ5 hj_j3), (fun U hU hW => ⟨rfl, WdC.pre hP hK hD hN hU hW⟩)⟩ rfl rfl hl.1 rfl (lv_room (Nat.le_of_ble_eq_true rfl)) dX8_cell_57 ⟨le_R hRc (Nat.le_refl 0), le_R hRs (Nat.le_refl 0)⟩) hS (fun r H locs hr1 hP hS => ?_)
        subst hr1
        refine lv_i2l hx hb dX8_cell_60 rfl ?_
        rw [hZ]; rw [hQ] at hv
        exact W.lret (v := (Int32.toInt64 (fn_X5_at j3 i_ σ5))) hx hb hr (fun t ht hW => ⟨⟨(Int32.toInt64 (fn_X5_at j3 i_ σ5)), σ5, rfl, hv, ⟨P_of ht hP, hD⟩⟩, hS.F ht⟩) hS.2.2 dX8_cell_61
      · have hv := hv.2 c7
        refine lv_ldc2 (v := (-9223372036854775808)) hx hb hown (hts (.constantLong RX8 195 (-9223372036854775808)) (List.mem_of_getElem? (i := 2) rfl)) dX8_cell_48 ?_
        refine lv_goto (tgt := 61) hx hb dX8_cell_51 (by decide) ?_
        rw [hZ]; rw [hQ] at hv
        exact W.lret (v := (-9223372036854775808)) hx hb hr (fun t ht hW => ⟨⟨(-9223372036854775808), σ5, rfl, hv, ⟨P_of ht hP, hD⟩⟩, hS.F ht⟩) hS.2.2 dX8_cell_61
    · have hv := hv.2 c8
      refine lv_ldc2 (v := (-9223372036854775808)) hx hb hown (hts (.constantLong RX8 195 (-9223372036854775808)) (List.mem_of_getElem? (i := 2) rfl)) dX8_cell_25 ?_
      rw [hZ]; rw [hQ] at hv
      exact W.lret (v := (-9223372036854775808)) hx hb hr (fun t ht hW => ⟨⟨(-9223372036854775808), σ1, rfl, hv, ⟨P_of ht hP, hD⟩⟩, hS.F ht⟩) hS.2.2 dX8_cell_28
set_option maxHeartbeats 4000000 in
set_option maxRecDepth 100000 in
theorem wk_X8_copy (l : Launch) (h_X5_hasNothing : Ct_X5_hasNothing l) (h_X5_reaches : Ct_X5_reaches l) (h_X8_faulted : Ct_X8_faulted l) (h_X8_sheetAt : Ct_X8_sheetAt l) (sp : Sp_X8_copy) : Ct_X8_copy l := by
  intro D cy ad A k_ i_ o_ j_ n_ ag σ0  hpre
  refine Met.ofW (cc := cX8_copy) (maxL := 8) (ret := (some .int)) (by decide) rfl ?_
  intro p e s m args below meth c s₁ B hml hv0
  obtain ⟨rfl, hP, hK, hD, hN⟩ := hv0
  have hx := B.exec
  have hb := B.bytes
  have hr := B.returns
  have hts := atoms_spec (ws := wsX8_copy) B.pre
  have hown : s.vm.findClass RX8 = some m.cls := findClass_of_methodNamed B.named
  have hlocks := B.notSynchronized
  have hv := sp k_ i_ o_ j_ n_ ag σ0 hpre
  have hl := lv_entry ([.ref (ad 0), .int k_, .int i_, .int o_, .int j_, .int n_]) (n := 8) (Nat.le_of_ble_eq_true rfl)
  rw [lg_entry_eq]
  generalize (lg_sl ([.ref (ad 0), .int k_, .int i_, .int o_, .int j_, .int n_]) ++ List.replicate (8 - (lg_sl ([.ref (ad 0), .int k_, .int i_, .int o_, .int j_, .int n_])).length) Slot.unset).toArray = ls at hl ⊢
  have hl : lv_has ls 8 [(0, .ref (ad 0)), (1, .int k_), (2, .int i_), (3, .int o_), (4, .int j_), (5, .int n_)] := hl
  refine W_gen (fun R Z H locs hR hZ hH hlo => ?_)
  have hRf : R.frames = 2 := by rw [hR]; rfl
  have hRl : R.locals = 91 := by rw [hR]; rfl
  have hRc : R.cells = 0 := by rw [hR]; rfl
  have hRs : R.slots = 0 := by rw [hR]; rfl
  have hS : va_S A s.heap H locs := by rw [hH, hlo]; exact va_S.rf
  rw [← hH] at hP
  obtain ⟨Q, hQ⟩ : ∃ q : Int32 → S_ → Prop, q = (post_X8_copy k_ i_ o_ j_ n_ ag σ0) := ⟨_, rfl⟩
  rw [← hQ] at hv
  have hinX5 : ∀ w ∈ wsX50, w ∈ wsX8_copy := by decide +kernel
  have hinX8 : ∀ w ∈ wsX80, w ∈ wsX8_copy := by decide +kernel
  refine lv_aload_n hx hb dX8_copy_0 rfl (lv_at hl 0 rfl) ?_
  refine lv_iconst (v := 0) hx hb dX8_copy_1 (by decide) ?_
  refine va_put (ci := 8) (v := .int 0) (ty := .int) (C := RX8) (T := TX8) (N := 5) hx hb hts hinX8 tyX8 tyX8_ok nmX8 hown hK hP hD hS 0 (wC_0 cy ad σ0) rfl 4 (by decide) (hts (.fieldLink RX8 41 "TaleBans" "latestFault" "I") (List.mem_of_getElem? (i := 1) rfl)) (fun x h => h) rfl (by decide +kernel) rfl rfl (Nat.le_of_ble_eq_true rfl) dX8_copy_2 (fun H locs hP hD hS => ?_)
  obtain ⟨σ1, e2⟩ : ∃ y : S_, y = wrI σ0 0 0 := ⟨_, rfl⟩
  have hP : va_P D vwCl (wC cy ad σ1) H := by rw [e2]; exact hP
  have hD : va_D A (wC cy ad σ1) := by rw [e2]; exact hD
  have hv := hv σ1 e2
  refine lv_aload_n hx hb dX8_copy_5 rfl (lv_at hl 0 rfl) ?_
  refine lv_iload_n hx hb dX8_copy_6 rfl (lv_at hl 1 rfl) ?_
  have hp := True.intro
  refine k_read_e (w := wC cy ad) (va_runV (As := [.int k_]) (rest := []) ⟨hx, hb, hml, hown, hts⟩ (h_X8_sheetAt D cy ad A k_ σ1 hp) (cwV 1 hts gX8_copy_X8_sheetAt rfl rfl rfl (by decide +kernel) ⟨le_R hRf (Nat.le_of_ble_eq_true rfl), le_R hRl (Nat.le_of_ble_eq_true rfl)⟩) ⟨(fun a U g mk q => ⟨q.1, q.2.blind⟩), va_recv hK hP (ci := 8) (q0 := 0) rfl (wC_0 cy ad σ1), (fun U hU hW => ⟨rfl, WdC.pre hP hK hD hN hU hW⟩)⟩ rfl rfl hl.1 rfl (lv_room (Nat.le_of_ble_eq_true rfl)) dX8_copy_7 ⟨le_R hRc (Nat.le_refl 0), le_R hRs (Nat.le_refl 0)⟩) hS (fun r H locs hr1 hP hS => ?_)
  subst hr1
  cases o4 : (fn_X8_sheetAt k_ σ1) with
  | none =>
    have hv := hv.1 o4
    refine W_top (v' := .null) rfl ?_
    refine lv_astoreN (lv' := [(6, .null), (0, .ref (ad 0)), (1, .int k_), (2, .int i_), (3, .int o_), (4, .int j_), (5, .int n_)]) hx hb dX8_copy_10 hl (by decide) rfl (fun ls hl => ?_)
    refine lv_aload_n hx hb dX8_copy_12 rfl (lv_at hl 1 rfl) ?_
    refine lv_iload_n hx hb dX8_copy_13 rfl (lv_at hl 4 rfl) ?_
    have hp := True.intro
    refine k_read_e (w := wC cy ad) (va_runV (As := [.int o_]) (rest := []) ⟨hx, hb, hml, hown, hts⟩ (h_X8_sheetAt D cy ad A o_ σ1 hp) (cwV 1 hts gX8_copy_X8_sheetAt rfl rfl rfl (by decide +kernel) ⟨le_R hRf (Nat.le_of_ble_eq_true rfl), le_R hRl (Nat.le_of_ble_eq_true rfl)⟩) ⟨(fun a U g mk q => ⟨q.1, q.2.blind⟩), va_recv hK hP (ci := 8) (q0 := 0) rfl (wC_0 cy ad σ1), (fun U hU hW => ⟨rfl, WdC.pre hP hK hD hN hU hW⟩)⟩ rfl rfl hl.1 rfl (lv_room (Nat.le_of_ble_eq_true rfl)) dX8_copy_14 ⟨le_R hRc (Nat.le_refl 0), le_R hRs (Nat.le_refl 0)⟩) hS (fun r H locs hr1 hP hS => ?_)
    subst hr1
    cases o6 : (fn_X8_sheetAt o_ σ1) with
    | none =>
      have hv := hv.1 o6
      refine W_top (v' := .null) rfl ?_
      refine lv_astoreN (lv' := [(7, .null), (6, .null), (0, .ref (ad 0)), (1, .int k_), (2, .int i_), (3, .int o_), (4, .int j_), (5, .int n_)]) hx hb dX8_copy_17 hl (by decide) rfl (fun ls hl => ?_)
      refine lv_aloadN hx hb dX8_copy_19 (lv_at hl 1 rfl) ?_
      refine lv_ifnullN (tgt := 29) hx hb dX8_copy_21 (by decide) ?_
      refine lv_iconst (v := (-1)) hx hb dX8_copy_29 (by decide) ?_
      rw [hZ]; rw [hQ] at hv
      exact W.iret (v := (-1)) hx hb hr (fun t ht hW => ⟨⟨(-1), σ1, rfl, hv, ⟨P_of ht hP, hD⟩⟩, hS.F ht⟩) hS.2.2 dX8_copy_30
    | some j5 =>
      obtain ⟨hj_j5, hv⟩ := hv.2 j5 o6
      refine W_top (v' := .ref (ad (2 + 2 * j5))) rfl ?_
      refine lv_astore (lv' := [(7, .ref (ad (2 + 2 * j5))), (6, .null), (0, .ref (ad 0)), (1, .int k_), (2, .int i_), (3, .int o_), (4, .int j_), (5, .int n_)]) hx hb dX8_copy_17 hl (by decide) rfl (fun ls hl => ?_)
      refine lv_aloadN hx hb dX8_copy_19 (lv_at hl 1 rfl) ?_
      refine lv_ifnullN (tgt := 29) hx hb dX8_copy_21 (by decide) ?_
      refine lv_iconst (v := (-1)) hx hb dX8_copy_29 (by decide) ?_
      rw [hZ]; rw [hQ] at hv
      exact W.iret (v := (-1)) hx hb hr (fun t ht hW => ⟨⟨(-1), σ1, rfl, hv, ⟨P_of ht hP, hD⟩⟩, hS.F ht⟩) hS.2.2 dX8_copy_30
  | some j3 =>
    obtain ⟨hj_j3, hv⟩ := hv.2 j3 o4
    refine W_top (v' := .ref (ad (2 + 2 * j3))) rfl ?_
    refine lv_astore (lv' := [(6, .ref (ad (2 + 2 * j3))), (0, .ref (ad 0)), (1, .int k_), (2, .int i_), (3, .int o_), (4, .int j_), (5, .int n_)]) hx hb dX8_copy_10 hl (by decide) rfl (fun ls hl => ?_)
    refine lv_aload_n hx hb dX8_copy_12 rfl (lv_at hl 1 rfl) ?_
    refine lv_iload_n hx hb dX8_copy_13 rfl (lv_at hl 4 rfl) ?_
    have hp := True.intro
    refine k_read_e (w := wC cy ad) (va_runV (As := [.int o_]) (rest := []) ⟨hx, hb, hml, hown, hts⟩ (h_X8_sheetAt D cy ad A o_ σ1 hp) (cwV 1 hts gX8_copy_X8_sheetAt rfl rfl rfl (by decide +kernel) ⟨le_R hRf (Nat.le_of_ble_eq_true rfl), le_R hRl (Nat.le_of_ble_eq_true rfl)⟩) ⟨(fun a U g mk q => ⟨q.1, q.2.blind⟩), va_recv hK hP (ci := 8) (q0 := 0) rfl (wC_0 cy ad σ1), (fun U hU hW => ⟨rfl, WdC.pre hP hK hD hN hU hW⟩)⟩ rfl rfl hl.1 rfl (lv_room (Nat.le_of_ble_eq_true rfl)) dX8_copy_14 ⟨le_R hRc (Nat.le_refl 0), le_R hRs (Nat.le_refl 0)⟩) hS (fun r H locs hr1 hP hS => ?_)
    subst hr1
    cases o8 : (fn_X8_sheetAt o_ σ1) with
    | none =>
      have hv := hv.1 o8
      refine W_top (v' := .null) rfl ?_
      refine lv_astoreN (lv' := [(7, .null), (6, .ref (ad (2 + 2 * j3))), (0, .ref (ad 0)), (1, .int k_), (2, .int i_), (3, .int o_), (4, .int j_), (5, .int n_)]) hx hb dX8_copy_17 hl (by decide) rfl (fun ls hl => ?_)
      refine lv_aload hx hb dX8_copy_19 (lv_at hl 1 rfl) ?_
      refine lv_ifnull hx hb dX8_copy_21 ?_
      refine lv_aloadN hx hb dX8_copy_24 (lv_at hl 0 rfl) ?_
      refine lv_ifnonnullN hx hb dX8_copy_26 ?_
      refine lv_iconst (v := (-1)) hx hb dX8_copy_29 (by decide) ?_
      rw [hZ]; rw [hQ] at hv
      exact W.iret (v := (-1)) hx hb hr (fun t ht hW => ⟨⟨(-1), σ1, rfl, hv, ⟨P_of ht hP, hD⟩⟩, hS.F ht⟩) hS.2.2 dX8_copy_30
    | some j7 =>
      obtain ⟨hj_j7, hv⟩ := hv.2 j7 o8
      refine W_top (v' := .ref (ad (2 + 2 * j7))) rfl ?_
      refine lv_astore (lv' := [(7, .ref (ad (2 + 2 * j7))), (6, .ref (ad (2 + 2 * j3))), (0, .ref (ad 0)), (1, .int k_), (2, .int i_), (3, .int o_), (4, .int j_), (5, .int n_)]) hx hb dX8_copy_17 hl (by decide) rfl (fun ls hl => ?_)
      refine lv_aload hx hb dX8_copy_19 (lv_at hl 1 rfl) ?_
      refine lv_ifnull hx hb dX8_copy_21 ?_
      refine lv_aload hx hb dX8_copy_24 (lv_at hl 0 rfl) ?_
      refine lv_ifnonnull (tgt := 31) hx hb dX8_copy_26 (by decide) ?_
      refine lv_aload hx hb dX8_copy_31 (lv_at hl 1 rfl) ?_
      have hp := True.intro
      refine k_read_i (w := wC cy ad) (va_runVN (As := []) (rest := []) ⟨hx, hb, hml, hown, hts⟩ (h_X5_hasNothing D cy ad A j3 σ1 hj_j3 hp) ⟨va_cnB 0 hts gX8_copy_X5_hasNothing_n200 rfl rfl rfl (nwm_63 hN) (hts (.initialized RX5) (List.mem_of_getElem? (i := 16) rfl)) (by decide +kernel) ⟨le_R hRf (Nat.le_of_ble_eq_true rfl), le_R hRl (Nat.le_of_ble_eq_true rfl)⟩, (hts (.instanceMethod yX5_hasNothing) (List.mem_of_getElem? (i := 15) rfl)), (hts (.selects RX5 yX5_hasNothing yX5_hasNothing) (List.mem_of_getElem? (i := 17) rfl))⟩ ⟨(fun a U g mk q => ⟨q.1, q.2.blind⟩), va_recv hK hP (ci := 5) (q0 := (2 + 2 * j3)) rfl (wC_sh cy ad σ1 hj_j3), (fun U hU hW => ⟨rfl, WdC.pre hP hK hD hN hU hW⟩)⟩ rfl rfl hl.1 rfl (lv_room (Nat.le_of_ble_eq_true rfl)) dX8_copy_33 ⟨le_R hRc (Nat.le_refl 0), le_R hRs (Nat.le_refl 0)⟩) hS (fun r H locs hr1 hP hS => ?_)
      subst hr1
      refine lv_if_ne (tgt := 47) hx hb dX8_copy_36 (by decide) (fun c25 => ?_) (fun c25 => ?_)
      · have hv := hv.1 c25
        refine lv_aload_n hx hb dX8_copy_47 rfl (lv_at hl 2 rfl) ?_
        refine lv_iconst (v := 1) hx hb dX8_copy_48 (by decide) ?_
        have hp := True.intro
        refine k_rel_i (w := wC cy ad) (va_runV (As := [.int 1]) (rest := []) ⟨hx, hb, hml, hown, hts⟩ (h_X8_faulted D cy ad A 1 σ1 hp) (cwV 1 hts gX8_copy_X8_faulted rfl rfl rfl (by decide +kernel) ⟨le_R hRf (Nat.le_of_ble_eq_true rfl), le_R hRl (Nat.le_of_ble_eq_true rfl)⟩) ⟨(fun a U g mk q => ⟨q.1, q.2.blind⟩), va_recv hK hP (ci := 8) (q0 := 0) rfl (wC_0 cy ad σ1), (fun U hU hW => ⟨rfl, WdC.pre hP hK hD hN hU hW⟩)⟩ rfl rfl hl.1 rfl (lv_room (Nat.le_of_ble_eq_true rfl)) dX8_copy_49 ⟨le_R hRc (Nat.le_refl 0), le_R hRs (Nat.le_refl 0)⟩) hS (fun r10 σ9 H locs hr1 hP hD hS => ?_)
        have hv := hv r10 σ9 hr1
        rw [hZ]; rw [hQ] at hv
        exact W.iret (v := r10) hx hb hr (fun t ht hW => ⟨⟨r10, σ9, rfl, hv, ⟨P_of ht hP, hD⟩⟩, hS.F ht⟩) hS.2.2 dX8_copy_52
      · have hv := hv.2 c25
        refine lv_aload hx hb dX8_copy_39 (lv_at hl 0 rfl) ?_
        have hp := True.intro
        refine k_read_i (w := wC cy ad) (va_runVN (As := []) (rest := []) ⟨hx, hb, hml, hown, hts⟩ (h_X5_hasNothing D cy ad A j7 σ1 hj_j7 hp) ⟨va_cnB 0 hts gX8_copy_X5_hasNothing_n200 rfl rfl rfl (nwm_63 hN) (hts (.initialized RX5) (List.mem_of_getElem? (i := 16) rfl)) (by decide +kernel) ⟨le_R hRf (Nat.le_of_ble_eq_true rfl), le_R hRl (Nat.le_of_ble_eq_true rfl)⟩, (hts (.instanceMethod yX5_hasNothing) (List.mem_of_getElem? (i := 15) rfl)), (hts (.selects RX5 yX5_hasNothing yX5_hasNothing) (List.mem_of_getElem? (i := 17) rfl))⟩ ⟨(fun a U g mk q => ⟨q.1, q.2.blind⟩), va_recv hK hP (ci := 5) (q0 := (2 + 2 * j7)) rfl (wC_sh cy ad σ1 hj_j7), (fun U hU hW => ⟨rfl, WdC.pre hP hK hD hN hU hW⟩)⟩ rfl rfl hl.1 rfl (lv_room (Nat.le_of_ble_eq_true rfl)) dX8_copy_41 ⟨le_R hRc (Nat.le_refl 0), le_R hRs (Nat.le_refl 0)⟩) hS (fun r H locs hr1 hP hS => ?_)
        subst hr1
        refine lv_if_eq (tgt := 53) hx hb dX8_copy_44 (by decide) (fun c24 => ?_) (fun c24 => ?_)
        · have hv := hv.1 c24
          refine lv_aload hx hb dX8_copy_53 (lv_at hl 1 rfl) ?_
          refine va_getN (ci := 5) (v := .int (rdI σ1 (12 + j3))) (C := RX5) (T := TX5) (N := 3) hx hb hts hinX5 hown hK hP (2 + 2 * j3) (wC_sh cy ad σ1 hj_j3) rfl 1 (by decide) (nw_15 hN) (fun x h => h) rfl dX8_copy_55 ?_
          refine lv_aload hx hb dX8_copy_58 (lv_at hl 0 rfl) ?_
          refine va_getN (ci := 5) (v := .int (rdI σ1 (12 + j7))) (C := RX5) (T := TX5) (N := 3) hx hb hts hinX5 hown hK hP (2 + 2 * j7) (wC_sh cy ad σ1 hj_j7) rfl 1 (by decide) (nw_15 hN) (fun x h => h) rfl dX8_copy_60 ?_
          refine lv_icmp_eq (tgt := 72) hx hb dX8_copy_63 (by decide) (fun c21 => ?_) (fun c21 => ?_)
          · have hv := hv.1 c21
            refine lv_aload hx hb dX8_copy_72 (lv_at hl 1 rfl) ?_
            refine lv_iload_n hx hb dX8_copy_74 rfl (lv_at hl 4 rfl) ?_
            refine lv_iload hx hb dX8_copy_75 (lv_at hl 7 rfl) ?_
            have hp := True.intro
            refine k_read_i (w := wC cy ad) (va_runVN (As := [.int i_, .int n_]) (rest := []) ⟨hx, hb, hml, hown, hts⟩ (h_X5_reaches D cy ad A j3 i_ n_ σ1 hj_j3 hp) ⟨va_cnB 2 hts gX8_copy_X5_reaches_n214 rfl rfl rfl (nwm_67 hN) (hts (.initialized RX5) (List.mem_of_getElem? (i := 16) rfl)) (by decide +kernel) ⟨le_R hRf (Nat.le_of_ble_eq_true rfl), le_R hRl (Nat.le_of_ble_eq_true rfl)⟩, (hts (.instanceMethod yX5_reaches) (List.mem_of_getElem? (i := 24) rfl)), (hts (.selects RX5 yX5_reaches yX5_reaches) (List.mem_of_getElem? (i := 25) rfl))⟩ ⟨(fun a U g mk q => ⟨q.1, q.2.blind⟩), va_recv hK hP (ci := 5) (q0 := (2 + 2 * j3)) rfl (wC_sh cy ad σ1 hj_j3), (fun U hU hW => ⟨rfl, WdC.pre hP hK hD hN hU hW⟩)⟩ rfl rfl hl.1 rfl (lv_room (Nat.le_of_ble_eq_true rfl)) dX8_copy_77 ⟨le_R hRc (Nat.le_refl 0), le_R hRs (Nat.le_refl 0)⟩) hS (fun r H locs hr1 hP hS => ?_)
            subst hr1
            refine lv_if_eq (tgt := 95) hx hb dX8_copy_80 (by decide) (fun c18 => ?_) (fun c18 => ?_)
            · have hv := hv.1 c18
              refine lv_aload_n hx hb dX8_copy_95 rfl (lv_at hl 2 rfl) ?_
              refine lv_iconst (v := 3) hx hb dX8_copy_96 (by decide) ?_
              have hp := True.intro
              refine k_rel_i (w := wC cy ad) (va_runV (As := [.int 3]) (rest := []) ⟨hx, hb, hml, hown, hts⟩ (h_X8_faulted D cy ad A 3 σ1 hp) (cwV 1 hts gX8_copy_X8_faulted rfl rfl rfl (by decide +kernel) ⟨le_R hRf (Nat.le_of_ble_eq_true rfl), le_R hRl (Nat.le_of_ble_eq_true rfl)⟩) ⟨(fun a U g mk q => ⟨q.1, q.2.blind⟩), va_recv hK hP (ci := 8) (q0 := 0) rfl (wC_0 cy ad σ1), (fun U hU hW => ⟨rfl, WdC.pre hP hK hD hN hU hW⟩)⟩ rfl rfl hl.1 rfl (lv_room (Nat.le_of_ble_eq_true rfl)) dX8_copy_97 ⟨le_R hRc (Nat.le_refl 0), le_R hRs (Nat.le_refl 0)⟩) hS (fun r12 σ11 H locs hr1 hP hD hS => ?_)
              have hv := hv r12 σ11 hr1
              rw [hZ]; rw [hQ] at hv
              exact W.iret (v := r12) hx hb hr (fun t ht hW => ⟨⟨r12, σ11, rfl, hv, ⟨P_of ht hP, hD⟩⟩, hS.F ht⟩) hS.2.2 dX8_copy_100
            · have hv := hv.2 c18
              refine lv_aload hx hb dX8_copy_83 (lv_at hl 0 rfl) ?_
              refine lv_iload hx hb dX8_copy_85 (lv_at hl 6 rfl) ?_
              refine lv_iload hx hb dX8_copy_87 (lv_at hl 7 rfl) ?_
              have hp := True.intro
              refine k_read_i (w := wC cy ad) (va_runVN (As := [.int j_, .int n_]) (rest := []) ⟨hx, hb, hml, hown, hts⟩ (h_X5_reaches D cy ad A j7 j_ n_ σ1 hj_j7 hp) ⟨va_cnB 2 hts gX8_copy_X5_reaches_n214 rfl rfl rfl (nwm_67 hN) (hts (.initialized RX5) (List.mem_of_getElem? (i := 16) rfl)) (by decide +kernel) ⟨le_R hRf (Nat.le_of_ble_eq_true rfl), le_R hRl (Nat.le_of_ble_eq_true rfl)⟩, (hts (.instanceMethod yX5_reaches) (List.mem_of_getElem? (i := 24) rfl)), (hts (.selects RX5 yX5_reaches yX5_reaches) (List.mem_of_getElem? (i := 25) rfl))⟩ ⟨(fun a U g mk q => ⟨q.1, q.2.blind⟩), va_recv hK hP (ci := 5) (q0 := (2 + 2 * j7)) rfl (wC_sh cy ad σ1 hj_j7), (fun U hU hW => ⟨rfl, WdC.pre hP hK hD hN hU hW⟩)⟩ rfl rfl hl.1 rfl (lv_room (Nat.le_of_ble_eq_true rfl)) dX8_copy_89 ⟨le_R hRc (Nat.le_refl 0), le_R hRs (Nat.le_refl 0)⟩) hS (fun r H locs hr1 hP hS => ?_)
              subst hr1
              refine lv_if_ne (tgt := 101) hx hb dX8_copy_92 (by decide) (fun c17 => ?_) (fun c17 => ?_)
              · have hv := hv.1 c17
                refine lv_aload hx hb dX8_copy_101 (lv_at hl 1 rfl) ?_
                refine va_getN (ci := 5) (v := .ref (ad (3 + 2 * j3))) (C := RX5) (T := TX5) (N := 3) hx hb hts hinX5 hown hK hP (2 + 2 * j3) (wC_sh cy ad σ1 hj_j3) rfl 0 (by decide) (nw_14 hN) (fun x h => h) rfl dX8_copy_103 ?_
                refine lv_iload_n hx hb dX8_copy_106 rfl (lv_at hl 4 rfl) ?_
                refine lv_aload hx hb dX8_copy_107 (lv_at hl 0 rfl) ?_
                refine va_getN (ci := 5) (v := .ref (ad (3 + 2 * j7))) (C := RX5) (T := TX5) (N := 3) hx hb hts hinX5 hown hK hP (2 + 2 * j7) (wC_sh cy ad σ1 hj_j7) rfl 0 (by decide) (nw_14 hN) (fun x h => h) rfl dX8_copy_109 ?_
                refine lv_iload hx hb dX8_copy_112 (lv_at hl 6 rfl) ?_
                refine lv_iload hx hb dX8_copy_114 (lv_at hl 7 rfl) ?_
                obtain ⟨⟨h1, h2, h3, h4, h5⟩, hv⟩ := hv
                refine va_copyi hx hb (hml.trans hl.1.symm) hown (hts (.methodLink RX8 221 arraycopyName) (List.mem_of_getElem? (i := 2) rfl)) (hts (.native arraycopyName) (List.mem_of_getElem? (i := 3) rfl)) (hts (.static arraycopyName) (List.mem_of_getElem? (i := 4) rfl)) (hts (.initialized "java/lang/System") (List.mem_of_getElem? (i := 5) rfl)) hK hP hD hS (3 + 2 * j3) (3 + 2 * j7) 0 0 (wC_shA cy ad σ1 hj_j3) (wC_shA cy ad σ1 hj_j7) rfl rfl rfl h1 h2 h3 h4 h5 (fun i hi => rfl) (le_R hRf (Nat.le_of_ble_eq_true rfl)) (le_R hRl (Nat.le_of_ble_eq_true rfl)) dX8_copy_116 (fun H locs hP hD hS => ?_)
                obtain ⟨σ13, e14⟩ : ∃ y : S_, y = wrA σ1 j7 (va_cpy (rdA σ1 j3) (rdA σ1 j7) (Int32.toNatClampNeg i_) (Int32.toNatClampNeg j_) (Int32.toNatClampNeg n_)) := ⟨_, rfl⟩
                have hP : va_P D vwCl (wC cy ad σ13) H := by rw [e14]; exact (wC_shA_set cy ad σ1 hj_j7 (va_cpy (rdA σ1 j3) (rdA σ1 j7) (Int32.toNatClampNeg i_) (Int32.toNatClampNeg j_) (Int32.toNatClampNeg n_))) ▸ hP
                have hD : va_D A (wC cy ad σ13) := by rw [e14]; exact (wC_shA_set cy ad σ1 hj_j7 (va_cpy (rdA σ1 j3) (rdA σ1 j7) (Int32.toNatClampNeg i_) (Int32.toNatClampNeg j_) (Int32.toNatClampNeg n_))) ▸ hD
                have hv := hv σ13 e14
                refine lv_iload hx hb dX8_copy_119 (lv_at hl 7 rfl) ?_
                rw [hZ]; rw [hQ] at hv
                exact W.iret (v := n_) hx hb hr (fun t ht hW => ⟨⟨n_, σ13, rfl, hv, ⟨P_of ht hP, hD⟩⟩, hS.F ht⟩) hS.2.2 dX8_copy_121
              · have hv := hv.2 c17
                refine lv_aload_n hx hb dX8_copy_95 rfl (lv_at hl 2 rfl) ?_
                refine lv_iconst (v := 3) hx hb dX8_copy_96 (by decide) ?_
                have hp := True.intro
                refine k_rel_i (w := wC cy ad) (va_runV (As := [.int 3]) (rest := []) ⟨hx, hb, hml, hown, hts⟩ (h_X8_faulted D cy ad A 3 σ1 hp) (cwV 1 hts gX8_copy_X8_faulted rfl rfl rfl (by decide +kernel) ⟨le_R hRf (Nat.le_of_ble_eq_true rfl), le_R hRl (Nat.le_of_ble_eq_true rfl)⟩) ⟨(fun a U g mk q => ⟨q.1, q.2.blind⟩), va_recv hK hP (ci := 8) (q0 := 0) rfl (wC_0 cy ad σ1), (fun U hU hW => ⟨rfl, WdC.pre hP hK hD hN hU hW⟩)⟩ rfl rfl hl.1 rfl (lv_room (Nat.le_of_ble_eq_true rfl)) dX8_copy_97 ⟨le_R hRc (Nat.le_refl 0), le_R hRs (Nat.le_refl 0)⟩) hS (fun r16 σ15 H locs hr1 hP hD hS => ?_)
                have hv := hv r16 σ15 hr1
                rw [hZ]; rw [hQ] at hv
                exact W.iret (v := r16) hx hb hr (fun t ht hW => ⟨⟨r16, σ15, rfl, hv, ⟨P_of ht hP, hD⟩⟩, hS.F ht⟩) hS.2.2 dX8_copy_100
          · have hv := hv.2 c21
            refine lv_aload_n hx hb dX8_copy_66 rfl (lv_at hl 2 rfl) ?_
            refine lv_iconst (v := 2) hx hb dX8_copy_67 (by decide) ?_
            have hp := True.intro
            refine k_rel_i (w := wC cy ad) (va_runV (As := [.int 2]) (rest := []) ⟨hx, hb, hml, hown, hts⟩ (h_X8_faulted D cy ad A 2 σ1 hp) (cwV 1 hts gX8_copy_X8_faulted rfl rfl rfl (by decide +kernel) ⟨le_R hRf (Nat.le_of_ble_eq_true rfl), le_R hRl (Nat.le_of_ble_eq_true rfl)⟩) ⟨(fun a U g mk q => ⟨q.1, q.2.blind⟩), va_recv hK hP (ci := 8) (q0 := 0) rfl (wC_0 cy ad σ1), (fun U hU hW => ⟨rfl, WdC.pre hP hK hD hN hU hW⟩)⟩ rfl rfl hl.1 rfl (lv_room (Nat.le_of_ble_eq_true rfl)) dX8_copy_68 ⟨le_R hRc (Nat.le_refl 0), le_R hRs (Nat.le_refl 0)⟩) hS (fun r20 σ19 H locs hr1 hP hD hS => ?_)
            have hv := hv r20 σ19 hr1
            rw [hZ]; rw [hQ] at hv
            exact W.iret (v := r20) hx hb hr (fun t ht hW => ⟨⟨r20, σ19, rfl, hv, ⟨P_of ht hP, hD⟩⟩, hS.F ht⟩) hS.2.2 dX8_copy_71
        · have hv := hv.2 c24
          refine lv_aload_n hx hb dX8_copy_47 rfl (lv_at hl 2 rfl) ?_
          refine lv_iconst (v := 1) hx hb dX8_copy_48 (by decide) ?_
          have hp := True.intro
          refine k_rel_i (w := wC cy ad) (va_runV (As := [.int 1]) (rest := []) ⟨hx, hb, hml, hown, hts⟩ (h_X8_faulted D cy ad A 1 σ1 hp) (cwV 1 hts gX8_copy_X8_faulted rfl rfl rfl (by decide +kernel) ⟨le_R hRf (Nat.le_of_ble_eq_true rfl), le_R hRl (Nat.le_of_ble_eq_true rfl)⟩) ⟨(fun a U g mk q => ⟨q.1, q.2.blind⟩), va_recv hK hP (ci := 8) (q0 := 0) rfl (wC_0 cy ad σ1), (fun U hU hW => ⟨rfl, WdC.pre hP hK hD hN hU hW⟩)⟩ rfl rfl hl.1 rfl (lv_room (Nat.le_of_ble_eq_true rfl)) dX8_copy_49 ⟨le_R hRc (Nat.le_refl 0), le_R hRs (Nat.le_refl 0)⟩) hS (fun r23 σ22 H locs hr1 hP hD hS => ?_)
          have hv := hv r23 σ22 hr1
          rw [hZ]; rw [hQ] at hv
          exact W.iret (v := r23) hx hb hr (fun t ht hW => ⟨⟨r23, σ22, rfl, hv, ⟨P_of ht hP, hD⟩⟩, hS.F ht⟩) hS.2.2 dX8_copy_52
set_option maxHeartbeats 4000000 in
set_option maxRecDepth 100000 in
theorem wk_X8_tell (l : Launch) (h_X0_telling : Ct_X0_telling l) (h_X1_telling : Ct_X1_telling l) (h_X2_telling : Ct_X2_telling l) (h_X6_person : Ct_X6_person l) (sp : Sp_X8_tell) : Ct_X8_tell l := by
  intro D cy ad A p_ ag σ0  hpre
  refine Met.ofW (cc := cX8_tell) (maxL := 3) (ret := (some .int)) (by decide) rfl ?_
  intro p e s m args below meth c s₁ B hml hv0
  obtain ⟨rfl, hP, hK, hD, hN⟩ := hv0
  have hx := B.exec
  have hb := B.bytes
  have hr := B.returns
  have hts := atoms_spec (ws := wsX8_tell) B.pre
  have hown : s.vm.findClass RX8 = some m.cls := findClass_of_methodNamed B.named
  have hlocks := B.notSynchronized
  have hv := sp p_ ag σ0 hpre
  have hl := lv_entry ([.ref (ad 0), .int p_]) (n := 3) (Nat.le_of_ble_eq_true rfl)
  rw [lg_entry_eq]
  generalize (lg_sl ([.ref (ad 0), .int p_]) ++ List.replicate (3 - (lg_sl ([.ref (ad 0), .int p_])).length) Slot.unset).toArray = ls at hl ⊢
  have hl : lv_has ls 3 [(0, .ref (ad 0)), (1, .int p_)] := hl
  refine W_gen (fun R Z H locs hR hZ hH hlo => ?_)
  have hRf : R.frames = 5 := by rw [hR]; rfl
  have hRl : R.locals = 106 := by rw [hR]; rfl
  have hRc : R.cells = 0 := by rw [hR]; rfl
  have hRs : R.slots = 0 := by rw [hR]; rfl
  have hS : va_S A s.heap H locs := by rw [hH, hlo]; exact va_S.rf
  rw [← hH] at hP
  obtain ⟨Q, hQ⟩ : ∃ q : Int32 → S_ → Prop, q = (post_X8_tell p_ ag σ0) := ⟨_, rfl⟩
  rw [← hQ] at hv
  have hinX8 : ∀ w ∈ wsX80, w ∈ wsX8_tell := by decide +kernel
  refine lv_aload_n hx hb dX8_tell_0 rfl (lv_at hl 0 rfl) ?_
  refine va_get (ci := 8) (v := .ref (ad 11)) (C := RX8) (T := TX8) (N := 5) hx hb hts hinX8 hown hK hP 0 (wC_0 cy ad σ0) rfl 2 (by decide) (hts (.fieldLink RX8 27 "TaleBans" "land" "LTaleBans$Steppe;") (List.mem_of_getElem? (i := 1) rfl)) (fun x h => h) rfl dX8_tell_1 ?_
  refine lv_iload_n hx hb dX8_tell_4 rfl (lv_at hl 1 rfl) ?_
  obtain ⟨hp, hv⟩ := hv
  refine k_read_e (w := wC cy ad) (va_runVN (As := [.int p_]) (rest := []) ⟨hx, hb, hml, hown, hts⟩ (h_X6_person D cy ad A p_ σ0 hp) ⟨va_cnB 1 hts gX8_tell_X6_person_n72 rfl rfl rfl (nwm_35 hN) (hts (.initialized RX6) (List.mem_of_getElem? (i := 4) rfl)) (by decide +kernel) ⟨le_R hRf (Nat.le_of_ble_eq_true rfl), le_R hRl (Nat.le_of_ble_eq_true rfl)⟩, (hts (.instanceMethod yX6_person) (List.mem_of_getElem? (i := 3) rfl)), (hts (.selects RX6 yX6_person yX6_person) (List.mem_of_getElem? (i := 5) rfl))⟩ ⟨(fun a U g mk q => ⟨q.1, q.2.blind⟩), va_recv hK hP (ci := 6) (q0 := 11) rfl (wC_11 cy ad σ0), (fun U hU hW => ⟨rfl, WdC.pre hP hK hD hN hU hW⟩)⟩ rfl rfl hl.1 rfl (lv_room (Nat.le_of_ble_eq_true rfl)) dX8_tell_5 ⟨le_R hRc (Nat.le_refl 0), le_R hRs (Nat.le_refl 0)⟩) hS (fun r H locs hr1 hP hS => ?_)
  subst hr1
  cases o2 : (fn_X6_person p_ σ0) with
  | none =>
    have hv := hv.1 o2
    refine W_top (v' := .null) rfl ?_
    refine lv_astore_nN (lv' := [(2, .null), (0, .ref (ad 0)), (1, .int p_)]) hx hb dX8_tell_8 rfl hl (by decide) rfl (fun ls hl => ?_)
    refine lv_aload_nN hx hb dX8_tell_9 rfl (lv_at hl 0 rfl) ?_
    refine lv_ifnonnullN hx hb dX8_tell_10 ?_
    refine lv_iconst (v := (-1)) hx hb dX8_tell_13 (by decide) ?_
    refine lv_goto (tgt := 25) hx hb dX8_tell_14 (by decide) ?_
    rw [hZ]; rw [hQ] at hv
    exact W.iret (v := (-1)) hx hb hr (fun t ht hW => ⟨⟨(-1), σ0, rfl, hv, ⟨P_of ht hP, hD⟩⟩, hS.F ht⟩) hS.2.2 dX8_tell_25
  | some j1 =>
    obtain ⟨hj_j1, hv⟩ := hv.2 j1 o2
    refine W_top (v' := .ref ((hget σ0 j1).1)) rfl ?_
    refine lv_astore_n (lv' := [(2, .ref ((hget σ0 j1).1)), (0, .ref (ad 0)), (1, .int p_)]) hx hb dX8_tell_8 rfl hl (by decide) rfl (fun ls hl => ?_)
    refine lv_aload_n hx hb dX8_tell_9 rfl (lv_at hl 0 rfl) ?_
    refine lv_ifnonnull (tgt := 17) hx hb dX8_tell_10 (by decide) ?_
    refine lv_aload_n hx hb dX8_tell_17 rfl (lv_at hl 0 rfl) ?_
    refine lv_aload_n hx hb dX8_tell_18 rfl (lv_at hl 1 rfl) ?_
    refine va_get (ci := 8) (v := .ref (ad 10)) (C := RX8) (T := TX8) (N := 5) hx hb hts hinX8 hown hK hP 0 (wC_0 cy ad σ0) rfl 1 (by decide) (hts (.fieldLink RX8 20 "TaleBans" "bodies" "LTaleBans$Trace;") (List.mem_of_getElem? (i := 2) rfl)) (fun x h => h) rfl dX8_tell_19 ?_
    obtain ⟨⟨hq, hc⟩, hv⟩ := hv
    have hk3 : ∀ (r4 : Int32) (σ5 : S_) (H : Heap) (locs : List Loc), post_PE_telling j1 σ0 r4 σ5 → va_P D vwCl (wC cy ad σ5) H → va_D A (wC cy ad σ5) → va_S A s.heap H locs → W p l e R s m ([.ref (ad 0), .int p_] : List Value).toArray below meth c H locs 0 0 Z (F0 m (22 + 3) ls (.int r4 :: [])) := by
      intro r4 σ5 H locs hr1 hP hD hS
      have hv := hv r4 σ5 hr1
      rw [hZ]; rw [hQ] at hv
      exact W.iret (v := r4) hx hb hr (fun t ht hW => ⟨⟨r4, σ5, rfl, hv, ⟨P_of ht hP, hD⟩⟩, hS.F ht⟩) hS.2.2 dX8_tell_25
    rcases hc with hc | hc | hc
    · exact k_rel_i (w := wC cy ad) (va_runU (As := [.ref (ad 10)]) (rest := []) ⟨hx, hb, hml, hown, hts⟩ (h_X0_telling D cy ad A j1 σ0 ⟨hq, Or.inl hc⟩) (va_cwO 1 hts gX8_tell_X0_telling_u227X0 rfl rfl rfl (List.mem_of_getElem? (i := 28) rfl) (by decide +kernel) ⟨le_R hRf (Nat.le_of_ble_eq_true rfl), le_R hRl (Nat.le_of_ble_eq_true rfl)⟩) ⟨(fun a U g mk q => ⟨q.1, q.2.blind⟩), va_recv hK hP (ci := 0) (q0 := 28 + j1) rfl (wC_hd cy ad rfl hq hc), (fun U hU hW => ⟨rfl, WdC.pre hP hK hD hN hU hW⟩)⟩ rfl rfl hl.1 rfl (lv_room (Nat.le_of_ble_eq_true rfl)) dX8_tell_22 ⟨le_R hRc (Nat.le_refl 0), le_R hRs (Nat.le_refl 0)⟩) hS (fun r σ H locs hr1 hP hD hS => hk3 r σ H locs (pe_telling_0 (hc) hr1) hP hD hS)
    · exact k_rel_i (w := wC cy ad) (va_runU (As := [.ref (ad 10)]) (rest := []) ⟨hx, hb, hml, hown, hts⟩ (h_X1_telling D cy ad A j1 σ0 ⟨hq, hc⟩) (va_cwO 1 hts gX8_tell_X1_telling_u227X1 rfl rfl rfl (List.mem_of_getElem? (i := 28) rfl) (by decide +kernel) ⟨le_R hRf (Nat.le_of_ble_eq_true rfl), le_R hRl (Nat.le_of_ble_eq_true rfl)⟩) ⟨(fun a U g mk q => ⟨q.1, q.2.blind⟩), va_recv hK hP (ci := 1) (q0 := 28 + j1) rfl (wC_hd cy ad rfl hq hc), (fun U hU hW => ⟨rfl, WdC.pre hP hK hD hN hU hW⟩)⟩ rfl rfl hl.1 rfl (lv_room (Nat.le_of_ble_eq_true rfl)) dX8_tell_22 ⟨le_R hRc (Nat.le_refl 0), le_R hRs (Nat.le_refl 0)⟩) hS (fun r σ H locs hr1 hP hD hS => hk3 r σ H locs (pe_telling_1 (hc) hr1) hP hD hS)
    · exact k_rel_i (w := wC cy ad) (va_runV (As := [.ref (ad 10)]) (rest := []) ⟨hx, hb, hml, hown, hts⟩ (h_X2_telling D cy ad A j1 σ0 ⟨hq, isC_2 hc⟩) (cwV 1 hts gX8_tell_X2_telling rfl rfl rfl (by decide +kernel) ⟨le_R hRf (Nat.le_of_ble_eq_true rfl), le_R hRl (Nat.le_of_ble_eq_true rfl)⟩) ⟨(fun a U g mk q => ⟨q.1, q.2.blind⟩), va_recv hK hP (ci := 2) (q0 := 28 + j1) rfl (wC_hd cy ad rfl hq hc), (fun U hU hW => ⟨rfl, WdC.pre hP hK hD hN hU hW⟩)⟩ rfl rfl hl.1 rfl (lv_room (Nat.le_of_ble_eq_true rfl)) dX8_tell_22 ⟨le_R hRc (Nat.le_refl 0), le_R hRs (Nat.le_refl 0)⟩) hS (fun r σ H locs hr1 hP hD hS => hk3 r σ H locs (pe_telling_2 (hc) hr1) hP hD hS)
set_option maxHeartbeats 4000000 in
set_option maxRecDepth 100000 in
theorem wk_X8_greet (l : Launch) (h_X1_greeting : Ct_X1_greeting l) (h_X2_greeting : Ct_X2_greeting l) (h_X6_person : Ct_X6_person l) (sp : Sp_X8_greet) : Ct_X8_greet l := by
  intro D cy ad A p_ ag σ0  hpre
  refine Met.ofW (cc := cX8_greet) (maxL := 3) (ret := (some .int)) (by decide) rfl ?_
  intro p e s m args below meth c s₁ B hml hv0
  obtain ⟨rfl, hP, hK, hD, hN⟩ := hv0
  have hx := B.exec
  have hb := B.bytes
  have hr := B.returns
  have hts := atoms_spec (ws := wsX8_greet) B.pre
  have hown : s.vm.findClass RX8 = some m.cls := findClass_of_methodNamed B.named
  have hlocks := B.notSynchronized
  have hv := sp p_ ag σ0 hpre
  have hl := lv_entry ([.ref (ad 0), .int p_]) (n := 3) (Nat.le_of_ble_eq_true rfl)
  rw [lg_entry_eq]
  generalize (lg_sl ([.ref (ad 0), .int p_]) ++ List.replicate (3 - (lg_sl ([.ref (ad 0), .int p_])).length) Slot.unset).toArray = ls at hl ⊢
  have hl : lv_has ls 3 [(0, .ref (ad 0)), (1, .int p_)] := hl
  refine W_gen (fun R Z H locs hR hZ hH hlo => ?_)
  have hRf : R.frames = 2 := by rw [hR]; rfl
  have hRl : R.locals = 42 := by rw [hR]; rfl
  have hRc : R.cells = 0 := by rw [hR]; rfl
  have hRs : R.slots = 0 := by rw [hR]; rfl
  have hS : va_S A s.heap H locs := by rw [hH, hlo]; exact va_S.rf
  rw [← hH] at hP
  obtain ⟨Q, hQ⟩ : ∃ q : Int32 → S_ → Prop, q = (post_X8_greet p_ ag σ0) := ⟨_, rfl⟩
  rw [← hQ] at hv
  have hinX8 : ∀ w ∈ wsX80, w ∈ wsX8_greet := by decide +kernel
  refine lv_aload_n hx hb dX8_greet_0 rfl (lv_at hl 0 rfl) ?_
  refine va_get (ci := 8) (v := .ref (ad 11)) (C := RX8) (T := TX8) (N := 5) hx hb hts hinX8 hown hK hP 0 (wC_0 cy ad σ0) rfl 2 (by decide) (hts (.fieldLink RX8 27 "TaleBans" "land" "LTaleBans$Steppe;") (List.mem_of_getElem? (i := 1) rfl)) (fun x h => h) rfl dX8_greet_1 ?_
  refine lv_iload_n hx hb dX8_greet_4 rfl (lv_at hl 1 rfl) ?_
  obtain ⟨hp, hv⟩ := hv
  refine k_read_e (w := wC cy ad) (va_runVN (As := [.int p_]) (rest := []) ⟨hx, hb, hml, hown, hts⟩ (h_X6_person D cy ad A p_ σ0 hp) ⟨va_cnB 1 hts gX8_greet_X6_person_n72 rfl rfl rfl (nwm_35 hN) (hts (.initialized RX6) (List.mem_of_getElem? (i := 4) rfl)) (by decide +kernel) ⟨le_R hRf (Nat.le_of_ble_eq_true rfl), le_R hRl (Nat.le_of_ble_eq_true rfl)⟩, (hts (.instanceMethod yX6_person) (List.mem_of_getElem? (i := 3) rfl)), (hts (.selects RX6 yX6_person yX6_person) (List.mem_of_getElem? (i := 5) rfl))⟩ ⟨(fun a U g mk q => ⟨q.1, q.2.blind⟩), va_recv hK hP (ci := 6) (q0 := 11) rfl (wC_11 cy ad σ0), (fun U hU hW => ⟨rfl, WdC.pre hP hK hD hN hU hW⟩)⟩ rfl rfl hl.1 rfl (lv_room (Nat.le_of_ble_eq_true rfl)) dX8_greet_5 ⟨le_R hRc (Nat.le_refl 0), le_R hRs (Nat.le_refl 0)⟩) hS (fun r H locs hr1 hP hS => ?_)
  subst hr1
  cases o2 : (fn_X6_person p_ σ0) with
  | none =>
    have hv := hv.1 o2
    refine W_top (v' := .null) rfl ?_
    refine lv_astore_nN (lv' := [(2, .null), (0, .ref (ad 0)), (1, .int p_)]) hx hb dX8_greet_8 rfl hl (by decide) rfl (fun ls hl => ?_)
    refine lv_aload_nN hx hb dX8_greet_9 rfl (lv_at hl 0 rfl) ?_
    refine lv_ifnonnullN hx hb dX8_greet_10 ?_
    refine lv_iconst (v := (-1)) hx hb dX8_greet_13 (by decide) ?_
    refine lv_goto (tgt := 25) hx hb dX8_greet_14 (by decide) ?_
    rw [hZ]; rw [hQ] at hv
    exact W.iret (v := (-1)) hx hb hr (fun t ht hW => ⟨⟨(-1), σ0, rfl, hv, ⟨P_of ht hP, hD⟩⟩, hS.F ht⟩) hS.2.2 dX8_greet_25
  | some j1 =>
    obtain ⟨hj_j1, hv⟩ := hv.2 j1 o2
    refine W_top (v' := .ref ((hget σ0 j1).1)) rfl ?_
    refine lv_astore_n (lv' := [(2, .ref ((hget σ0 j1).1)), (0, .ref (ad 0)), (1, .int p_)]) hx hb dX8_greet_8 rfl hl (by decide) rfl (fun ls hl => ?_)
    refine lv_aload_n hx hb dX8_greet_9 rfl (lv_at hl 0 rfl) ?_
    refine lv_ifnonnull (tgt := 17) hx hb dX8_greet_10 (by decide) ?_
    refine lv_aload_n hx hb dX8_greet_17 rfl (lv_at hl 0 rfl) ?_
    refine lv_aload_n hx hb dX8_greet_18 rfl (lv_at hl 1 rfl) ?_
    refine va_get (ci := 8) (v := .ref (ad 10)) (C := RX8) (T := TX8) (N := 5) hx hb hts hinX8 hown hK hP 0 (wC_0 cy ad σ0) rfl 1 (by decide) (hts (.fieldLink RX8 20 "TaleBans" "bodies" "LTaleBans$Trace;") (List.mem_of_getElem? (i := 2) rfl)) (fun x h => h) rfl dX8_greet_19 ?_
    obtain ⟨⟨hq, hc⟩, hv⟩ := hv
    have hk3 : ∀ (r4 : Int32) (σ5 : S_) (H : Heap) (locs : List Loc), post_PE_greeting j1 σ0 r4 σ5 → va_P D vwCl (wC cy ad σ5) H → va_D A (wC cy ad σ5) → va_S A s.heap H locs → W p l e R s m ([.ref (ad 0), .int p_] : List Value).toArray below meth c H locs 0 0 Z (F0 m (22 + 3) ls (.int r4 :: [])) := by
      intro r4 σ5 H locs hr1 hP hD hS
      have hv := hv r4 σ5 hr1
      rw [hZ]; rw [hQ] at hv
      exact W.iret (v := r4) hx hb hr (fun t ht hW => ⟨⟨r4, σ5, rfl, hv, ⟨P_of ht hP, hD⟩⟩, hS.F ht⟩) hS.2.2 dX8_greet_25
    rcases hc with hc | hc | hc
    · exact k_rel_i (w := wC cy ad) (va_runU (As := [.ref (ad 10)]) (rest := []) ⟨hx, hb, hml, hown, hts⟩ (h_X2_greeting D cy ad A j1 σ0 ⟨hq, isC_0 hc⟩) (va_cwU 1 hts gX8_greet_X2_greeting_u231X0 rfl rfl rfl rfl (by decide +kernel) ⟨le_R hRf (Nat.le_of_ble_eq_true rfl), le_R hRl (Nat.le_of_ble_eq_true rfl)⟩) ⟨(fun a U g mk q => ⟨q.1, q.2.blind⟩), va_recv hK hP (ci := 0) (q0 := 28 + j1) rfl (wC_hd cy ad rfl hq hc), (fun U hU hW => ⟨rfl, WdC.pre hP hK hD hN hU hW⟩)⟩ rfl rfl hl.1 rfl (lv_room (Nat.le_of_ble_eq_true rfl)) dX8_greet_22 ⟨le_R hRc (Nat.le_refl 0), le_R hRs (Nat.le_refl 0)⟩) hS (fun r σ H locs hr1 hP hD hS => hk3 r σ H locs (pe_greeting_0 (hc) hr1) hP hD hS)
    · exact k_rel_i (w := wC cy ad) (va_runU (As := [.ref (ad 10)]) (rest := []) ⟨hx, hb, hml, hown, hts⟩ (h_X1_greeting D cy ad A j1 σ0 ⟨hq, hc⟩) (va_cwO 1 hts gX8_greet_X1_greeting_u231X1 rfl rfl rfl (List.mem_of_getElem? (i := 17) rfl) (by decide +kernel) ⟨le_R hRf (Nat.le_of_ble_eq_true rfl), le_R hRl (Nat.le_of_ble_eq_true rfl)⟩) ⟨(fun a U g mk q => ⟨q.1, q.2.blind⟩), va_recv hK hP (ci := 1) (q0 := 28 + j1) rfl (wC_hd cy ad rfl hq hc), (fun U hU hW => ⟨rfl, WdC.pre hP hK hD hN hU hW⟩)⟩ rfl rfl hl.1 rfl (lv_room (Nat.le_of_ble_eq_true rfl)) dX8_greet_22 ⟨le_R hRc (Nat.le_refl 0), le_R hRs (Nat.le_refl 0)⟩) hS (fun r σ H locs hr1 hP hD hS => hk3 r σ H locs (pe_greeting_1 (hc) hr1) hP hD hS)
    · exact k_rel_i (w := wC cy ad) (va_runV (As := [.ref (ad 10)]) (rest := []) ⟨hx, hb, hml, hown, hts⟩ (h_X2_greeting D cy ad A j1 σ0 ⟨hq, isC_2 hc⟩) (cwV 1 hts gX8_greet_X2_greeting rfl rfl rfl (by decide +kernel) ⟨le_R hRf (Nat.le_of_ble_eq_true rfl), le_R hRl (Nat.le_of_ble_eq_true rfl)⟩) ⟨(fun a U g mk q => ⟨q.1, q.2.blind⟩), va_recv hK hP (ci := 2) (q0 := 28 + j1) rfl (wC_hd cy ad rfl hq hc), (fun U hU hW => ⟨rfl, WdC.pre hP hK hD hN hU hW⟩)⟩ rfl rfl hl.1 rfl (lv_room (Nat.le_of_ble_eq_true rfl)) dX8_greet_22 ⟨le_R hRc (Nat.le_refl 0), le_R hRs (Nat.le_refl 0)⟩) hS (fun r σ H locs hr1 hP hD hS => hk3 r σ H locs (pe_greeting_2 (hc) hr1) hP hD hS)
set_option maxHeartbeats 4000000 in
set_option maxRecDepth 100000 in
theorem wk_X8_as (l : Launch) (h_X0_kind : Ct_X0_kind l) (h_X1_kind : Ct_X1_kind l) (h_X2_kind : Ct_X2_kind l) (h_X6_person : Ct_X6_person l) (h_X8_faulted : Ct_X8_faulted l) (h_X8_isOneOf : Ct_X8_isOneOf l) (sp : Sp_X8_as) : Ct_X8_as l := by
  intro D cy ad A p_ kind_ ag σ0  hpre
  refine Met.ofW (cc := cX8_as) (maxL := 4) (ret := (some .int)) (by decide) rfl ?_
  intro p e s m args below meth c s₁ B hml hv0
  obtain ⟨rfl, hP, hK, hD, hN⟩ := hv0
  have hx := B.exec
  have hb := B.bytes
  have hr := B.returns
  have hts := atoms_spec (ws := wsX8_as) B.pre
  have hown : s.vm.findClass RX8 = some m.cls := findClass_of_methodNamed B.named
  have hlocks := B.notSynchronized
  have hv := sp p_ kind_ ag σ0 hpre
  have hl := lv_entry ([.ref (ad 0), .int p_, .int kind_]) (n := 4) (Nat.le_of_ble_eq_true rfl)
  rw [lg_entry_eq]
  generalize (lg_sl ([.ref (ad 0), .int p_, .int kind_]) ++ List.replicate (4 - (lg_sl ([.ref (ad 0), .int p_, .int kind_])).length) Slot.unset).toArray = ls at hl ⊢
  have hl : lv_has ls 4 [(0, .ref (ad 0)), (1, .int p_), (2, .int kind_)] := hl
  refine W_gen (fun R Z H locs hR hZ hH hlo => ?_)
  have hRf : R.frames = 2 := by rw [hR]; rfl
  have hRl : R.locals = 42 := by rw [hR]; rfl
  have hRc : R.cells = 0 := by rw [hR]; rfl
  have hRs : R.slots = 0 := by rw [hR]; rfl
  have hS : va_S A s.heap H locs := by rw [hH, hlo]; exact va_S.rf
  rw [← hH] at hP
  obtain ⟨Q, hQ⟩ : ∃ q : Int32 → S_ → Prop, q = (post_X8_as p_ kind_ ag σ0) := ⟨_, rfl⟩
  rw [← hQ] at hv
  have hinX8 : ∀ w ∈ wsX80, w ∈ wsX8_as := by decide +kernel
  refine lv_aload_n hx hb dX8_as_0 rfl (lv_at hl 0 rfl) ?_
  refine lv_iconst (v := 0) hx hb dX8_as_1 (by decide) ?_
  refine va_put (ci := 8) (v := .int 0) (ty := .int) (C := RX8) (T := TX8) (N := 5) hx hb hts hinX8 tyX8 tyX8_ok nmX8 hown hK hP hD hS 0 (wC_0 cy ad σ0) rfl 4 (by decide) (hts (.fieldLink RX8 41 "TaleBans" "latestFault" "I") (List.mem_of_getElem? (i := 1) rfl)) (fun x h => h) rfl (by decide +kernel) rfl rfl (Nat.le_of_ble_eq_true rfl) dX8_as_2 (fun H locs hP hD hS => ?_)
  obtain ⟨σ1, e2⟩ : ∃ y : S_, y = wrI σ0 0 0 := ⟨_, rfl⟩
  have hP : va_P D vwCl (wC cy ad σ1) H := by rw [e2]; exact hP
  have hD : va_D A (wC cy ad σ1) := by rw [e2]; exact hD
  have hv := hv σ1 e2
  refine lv_aload_n hx hb dX8_as_5 rfl (lv_at hl 0 rfl) ?_
  refine va_get (ci := 8) (v := .ref (ad 11)) (C := RX8) (T := TX8) (N := 5) hx hb hts hinX8 hown hK hP 0 (wC_0 cy ad σ1) rfl 2 (by decide) (hts (.fieldLink RX8 27 "TaleBans" "land" "LTaleBans$Steppe;") (List.mem_of_getElem? (i := 2) rfl)) (fun x h => h) rfl dX8_as_6 ?_
  refine lv_iload_n hx hb dX8_as_9 rfl (lv_at hl 1 rfl) ?_
  obtain ⟨hp, hv⟩ := hv
  refine k_read_e (w := wC cy ad) (va_runVN (As := [.int p_]) (rest := []) ⟨hx, hb, hml, hown, hts⟩ (h_X6_person D cy ad A p_ σ1 hp) ⟨va_cnB 1 hts gX8_as_X6_person_n72 rfl rfl rfl (nwm_35 hN) (hts (.initialized RX6) (List.mem_of_getElem? (i := 4) rfl)) (by decide +kernel) ⟨le_R hRf (Nat.le_of_ble_eq_true rfl), le_R hRl (Nat.le_of_ble_eq_true rfl)⟩, (hts (.instanceMethod yX6_person) (List.mem_of_getElem? (i := 3) rfl)), (hts (.selects RX6 yX6_person yX6_person) (List.mem_of_getElem? (i := 5) rfl))⟩ ⟨(fun a U g mk q => ⟨q.1, q.2.blind⟩), va_recv hK hP (ci := 6) (q0 := 11) rfl (wC_11 cy ad σ1), (fun U hU hW => ⟨rfl, WdC.pre hP hK hD hN hU hW⟩)⟩ rfl rfl hl.1 rfl (lv_room (Nat.le_of_ble_eq_true rfl)) dX8_as_10 ⟨le_R hRc (Nat.le_refl 0), le_R hRs (Nat.le_refl 0)⟩) hS (fun r H locs hr1 hP hS => ?_)
  subst hr1
  cases o4 : (fn_X6_person p_ σ1) with
  | none =>
    have hv := hv.1 o4
    refine W_top (v' := .null) rfl ?_
    refine lv_astore_nN (lv' := [(3, .null), (0, .ref (ad 0)), (1, .int p_), (2, .int kind_)]) hx hb dX8_as_13 rfl hl (by decide) rfl (fun ls hl => ?_)
    refine lv_aload_nN hx hb dX8_as_14 rfl (lv_at hl 0 rfl) ?_
    refine lv_ifnonnullN hx hb dX8_as_15 ?_
    refine lv_iconst (v := (-1)) hx hb dX8_as_18 (by decide) ?_
    rw [hZ]; rw [hQ] at hv
    exact W.iret (v := (-1)) hx hb hr (fun t ht hW => ⟨⟨(-1), σ1, rfl, hv, ⟨P_of ht hP, hD⟩⟩, hS.F ht⟩) hS.2.2 dX8_as_19
  | some j3 =>
    obtain ⟨hj_j3, hv⟩ := hv.2 j3 o4
    refine W_top (v' := .ref ((hget σ1 j3).1)) rfl ?_
    refine lv_astore_n (lv' := [(3, .ref ((hget σ1 j3).1)), (0, .ref (ad 0)), (1, .int p_), (2, .int kind_)]) hx hb dX8_as_13 rfl hl (by decide) rfl (fun ls hl => ?_)
    refine lv_aload_n hx hb dX8_as_14 rfl (lv_at hl 0 rfl) ?_
    refine lv_ifnonnull (tgt := 20) hx hb dX8_as_15 (by decide) ?_
    refine lv_iload_n hx hb dX8_as_20 rfl (lv_at hl 3 rfl) ?_
    refine lv_iconst (v := 3) hx hb dX8_as_21 (by decide) ?_
    refine k_pure_i (va_runS (As := [.int kind_, .int 3]) (rest := []) ⟨hx, hb, hml, hown, hts⟩ (h_X8_isOneOf kind_ 3) (va_cwS 2 hts gX8_as_X8_isOneOf rfl rfl rfl (by decide +kernel) ⟨le_R hRf (Nat.le_of_ble_eq_true rfl), le_R hRl (Nat.le_of_ble_eq_true rfl)⟩) ⟨(fun a U g mk q => ⟨q.1, trivial⟩), (fun U hU hW => ⟨rfl, trivial⟩)⟩ rfl rfl hl.1 rfl (lv_room (Nat.le_of_ble_eq_true rfl)) dX8_as_22 ⟨le_R hRc (Nat.le_refl 0), le_R hRs (Nat.le_refl 0)⟩) hS hP (fun r H locs hr1 hP hS => ?_)
    subst hr1
    refine lv_if_ne (tgt := 31) hx hb dX8_as_25 (by decide) (fun c9 => ?_) (fun c9 => ?_)
    · have hv := hv.1 c9
      refine lv_aload_n hx hb dX8_as_31 rfl (lv_at hl 0 rfl) ?_
      obtain ⟨⟨hq, hc⟩, hv⟩ := hv
      have hk5 : ∀ (r : Int32) (H : Heap) (locs : List Loc), r = (fn_PE_kind j3 σ1) → va_P D vwCl (wC cy ad σ1) H → va_S A s.heap H locs → W p l e R s m ([.ref (ad 0), .int p_, .int kind_] : List Value).toArray below meth c H locs 0 0 Z (F0 m (32 + 3) ls (.int r :: [])) := by
        intro r H locs hr1 hP hS
        subst hr1
        refine lv_iload_n hx hb dX8_as_35 rfl (lv_at hl 3 rfl) ?_
        refine lv_icmp_ge (tgt := 47) hx hb dX8_as_36 (by decide) (fun c8 => ?_) (fun c8 => ?_)
        · have hv := hv.1 c8
          refine lv_iconst (v := 1) hx hb dX8_as_47 (by decide) ?_
          rw [hZ]; rw [hQ] at hv
          exact W.iret (v := 1) hx hb hr (fun t ht hW => ⟨⟨1, σ1, rfl, hv, ⟨P_of ht hP, hD⟩⟩, hS.F ht⟩) hS.2.2 dX8_as_48
        · have hv := hv.2 c8
          refine lv_aload_n hx hb dX8_as_39 rfl (lv_at hl 1 rfl) ?_
          refine lv_iconst (v := 2) hx hb dX8_as_40 (by decide) ?_
          have hp := True.intro
          refine k_rel_i (w := wC cy ad) (va_runV (As := [.int 2]) (rest := []) ⟨hx, hb, hml, hown, hts⟩ (h_X8_faulted D cy ad A 2 σ1 hp) (cwV 1 hts gX8_as_X8_faulted rfl rfl rfl (by decide +kernel) ⟨le_R hRf (Nat.le_of_ble_eq_true rfl), le_R hRl (Nat.le_of_ble_eq_true rfl)⟩) ⟨(fun a U g mk q => ⟨q.1, q.2.blind⟩), va_recv hK hP (ci := 8) (q0 := 0) rfl (wC_0 cy ad σ1), (fun U hU hW => ⟨rfl, WdC.pre hP hK hD hN hU hW⟩)⟩ rfl rfl hl.1 rfl (lv_room (Nat.le_of_ble_eq_true rfl)) dX8_as_41 ⟨le_R hRc (Nat.le_refl 0), le_R hRs (Nat.le_refl 0)⟩) hS (fun r7 σ6 H locs hr1 hP hD hS => ?_)
          have hv := hv r7 σ6 hr1
          refine lv_goto (tgt := 48) hx hb dX8_as_44 (by decide) ?_
          rw [hZ]; rw [hQ] at hv
          exact W.iret (v := r7) hx hb hr (fun t ht hW => ⟨⟨r7, σ6, rfl, hv, ⟨P_of ht hP, hD⟩⟩, hS.F ht⟩) hS.2.2 dX8_as_48
      rcases hc with hc | hc | hc
      · exact k_read_i (w := wC cy ad) (va_runU (As := []) (rest := []) ⟨hx, hb, hml, hown, hts⟩ (h_X0_kind D cy ad A j3 σ1 ⟨hq, hc⟩) (va_cwO 0 hts gX8_as_X0_kind_u76X0 rfl rfl rfl (List.mem_of_getElem? (i := 20) rfl) (by decide +kernel) ⟨le_R hRf (Nat.le_of_ble_eq_true rfl), le_R hRl (Nat.le_of_ble_eq_true rfl)⟩) ⟨(fun a U g mk q => ⟨q.1, q.2.blind⟩), va_recv hK hP (ci := 0) (q0 := 28 + j3) rfl (wC_hd cy ad rfl hq hc), (fun U hU hW => ⟨rfl, WdC.pre hP hK hD hN hU hW⟩)⟩ rfl rfl hl.1 rfl (lv_room (Nat.le_of_ble_eq_true rfl)) dX8_as_32 ⟨le_R hRc (Nat.le_refl 0), le_R hRs (Nat.le_refl 0)⟩) hS (fun r H locs hr1 hP hS => hk5 r H locs (hr1.trans (pe_kind_0 (hc))) hP hS)
      · exact k_read_i (w := wC cy ad) (va_runU (As := []) (rest := []) ⟨hx, hb, hml, hown, hts⟩ (h_X1_kind D cy ad A j3 σ1 ⟨hq, hc⟩) (va_cwO 0 hts gX8_as_X1_kind_u76X1 rfl rfl rfl (List.mem_of_getElem? (i := 20) rfl) (by decide +kernel) ⟨le_R hRf (Nat.le_of_ble_eq_true rfl), le_R hRl (Nat.le_of_ble_eq_true rfl)⟩) ⟨(fun a U g mk q => ⟨q.1, q.2.blind⟩), va_recv hK hP (ci := 1) (q0 := 28 + j3) rfl (wC_hd cy ad rfl hq hc), (fun U hU hW => ⟨rfl, WdC.pre hP hK hD hN hU hW⟩)⟩ rfl rfl hl.1 rfl (lv_room (Nat.le_of_ble_eq_true rfl)) dX8_as_32 ⟨le_R hRc (Nat.le_refl 0), le_R hRs (Nat.le_refl 0)⟩) hS (fun r H locs hr1 hP hS => hk5 r H locs (hr1.trans (pe_kind_1 (hc))) hP hS)
      · exact k_read_i (w := wC cy ad) (va_runV (As := []) (rest := []) ⟨hx, hb, hml, hown, hts⟩ (h_X2_kind D cy ad A j3 σ1 ⟨hq, hc⟩) (cwV 0 hts gX8_as_X2_kind rfl rfl rfl (by decide +kernel) ⟨le_R hRf (Nat.le_of_ble_eq_true rfl), le_R hRl (Nat.le_of_ble_eq_true rfl)⟩) ⟨(fun a U g mk q => ⟨q.1, q.2.blind⟩), va_recv hK hP (ci := 2) (q0 := 28 + j3) rfl (wC_hd cy ad rfl hq hc), (fun U hU hW => ⟨rfl, WdC.pre hP hK hD hN hU hW⟩)⟩ rfl rfl hl.1 rfl (lv_room (Nat.le_of_ble_eq_true rfl)) dX8_as_32 ⟨le_R hRc (Nat.le_refl 0), le_R hRs (Nat.le_refl 0)⟩) hS (fun r H locs hr1 hP hS => hk5 r H locs (hr1.trans (pe_kind_2 (hc))) hP hS)
    · have hv := hv.2 c9
      refine lv_bipush (v := (-2)) hx hb dX8_as_28 (by decide) ?_
      rw [hZ]; rw [hQ] at hv
      exact W.iret (v := (-2)) hx hb hr (fun t ht hW => ⟨⟨(-2), σ1, rfl, hv, ⟨P_of ht hP, hD⟩⟩, hS.F ht⟩) hS.2.2 dX8_as_30
set_option maxHeartbeats 4000000 in
set_option maxRecDepth 100000 in
theorem wk_X8_trace (l : Launch) (sp : Sp_X8_trace) : Ct_X8_trace l := by
  intro D cy ad A  ag σ0  hpre
  refine Met.ofW (cc := cX8_trace) (maxL := 1) (ret := (some .int)) (by decide) rfl ?_
  intro p e s m args below meth c s₁ B hml hv0
  obtain ⟨rfl, hP, hK, hD, hN⟩ := hv0
  have hx := B.exec
  have hb := B.bytes
  have hr := B.returns
  have hts := atoms_spec (ws := wsX8_trace) B.pre
  have hown : s.vm.findClass RX8 = some m.cls := findClass_of_methodNamed B.named
  have hlocks := B.notSynchronized
  have hv := sp  ag σ0 hpre
  have hl := lv_entry ([.ref (ad 0)]) (n := 1) (Nat.le_of_ble_eq_true rfl)
  rw [lg_entry_eq]
  generalize (lg_sl ([.ref (ad 0)]) ++ List.replicate (1 - (lg_sl ([.ref (ad 0)])).length) Slot.unset).toArray = ls at hl ⊢
  have hl : lv_has ls 1 [(0, .ref (ad 0))] := hl
  refine W_gen (fun R Z H locs hR hZ hH hlo => ?_)
  have hRf : R.frames = 0 := by rw [hR]; rfl
  have hRl : R.locals = 0 := by rw [hR]; rfl
  have hRc : R.cells = 0 := by rw [hR]; rfl
  have hRs : R.slots = 0 := by rw [hR]; rfl
  have hS : va_S A s.heap H locs := by rw [hH, hlo]; exact va_S.rf
  rw [← hH] at hP
  obtain ⟨Q, hQ⟩ : ∃ q : Int32 → S_ → Prop, q = (post_X8_trace  ag σ0) := ⟨_, rfl⟩
  rw [← hQ] at hv
  have hinX7 : ∀ w ∈ wsX70, w ∈ wsX8_trace := by decide +kernel
  have hinX8 : ∀ w ∈ wsX80, w ∈ wsX8_trace := by decide +kernel
  refine lv_aload_n hx hb dX8_trace_0 rfl (lv_at hl 0 rfl) ?_
  refine va_get (ci := 8) (v := .ref (ad 10)) (C := RX8) (T := TX8) (N := 5) hx hb hts hinX8 hown hK hP 0 (wC_0 cy ad σ0) rfl 1 (by decide) (hts (.fieldLink RX8 20 "TaleBans" "bodies" "LTaleBans$Trace;") (List.mem_of_getElem? (i := 1) rfl)) (fun x h => h) rfl dX8_trace_1 ?_
  refine va_getN (ci := 7) (v := .int (rdI σ0 1)) (C := RX7) (T := TX7) (N := 1) hx hb hts hinX7 hown hK hP 10 (wC_10 cy ad σ0) rfl 0 (by decide) (nw_0 hN) (fun x h => h) rfl dX8_trace_4 ?_
  rw [hZ]; rw [hQ] at hv
  exact W.iret (v := (rdI σ0 1)) hx hb hr (fun t ht hW => ⟨⟨(rdI σ0 1), σ0, rfl, hv, ⟨P_of ht hP, hD⟩⟩, hS.F ht⟩) hS.2.2 dX8_trace_7
set_option maxHeartbeats 4000000 in
set_option maxRecDepth 100000 in
theorem wk_X8_fault (l : Launch) (sp : Sp_X8_fault) : Ct_X8_fault l := by
  intro D cy ad A  ag σ0  hpre
  refine Met.ofW (cc := cX8_fault) (maxL := 1) (ret := (some .int)) (by decide) rfl ?_
  intro p e s m args below meth c s₁ B hml hv0
  obtain ⟨rfl, hP, hK, hD, hN⟩ := hv0
  have hx := B.exec
  have hb := B.bytes
  have hr := B.returns
  have hts := atoms_spec (ws := wsX8_fault) B.pre
  have hown : s.vm.findClass RX8 = some m.cls := findClass_of_methodNamed B.named
  have hlocks := B.notSynchronized
  have hv := sp  ag σ0 hpre
  have hl := lv_entry ([.ref (ad 0)]) (n := 1) (Nat.le_of_ble_eq_true rfl)
  rw [lg_entry_eq]
  generalize (lg_sl ([.ref (ad 0)]) ++ List.replicate (1 - (lg_sl ([.ref (ad 0)])).length) Slot.unset).toArray = ls at hl ⊢
  have hl : lv_has ls 1 [(0, .ref (ad 0))] := hl
  refine W_gen (fun R Z H locs hR hZ hH hlo => ?_)
  have hRf : R.frames = 0 := by rw [hR]; rfl
  have hRl : R.locals = 0 := by rw [hR]; rfl
  have hRc : R.cells = 0 := by rw [hR]; rfl
  have hRs : R.slots = 0 := by rw [hR]; rfl
  have hS : va_S A s.heap H locs := by rw [hH, hlo]; exact va_S.rf
  rw [← hH] at hP
  obtain ⟨Q, hQ⟩ : ∃ q : Int32 → S_ → Prop, q = (post_X8_fault  ag σ0) := ⟨_, rfl⟩
  rw [← hQ] at hv
  have hinX8 : ∀ w ∈ wsX80, w ∈ wsX8_fault := by decide +kernel
  refine lv_aload_n hx hb dX8_fault_0 rfl (lv_at hl 0 rfl) ?_
  refine va_get (ci := 8) (v := .int (rdI σ0 0)) (C := RX8) (T := TX8) (N := 5) hx hb hts hinX8 hown hK hP 0 (wC_0 cy ad σ0) rfl 4 (by decide) (hts (.fieldLink RX8 41 "TaleBans" "latestFault" "I") (List.mem_of_getElem? (i := 1) rfl)) (fun x h => h) rfl dX8_fault_1 ?_
  rw [hZ]; rw [hQ] at hv
  exact W.iret (v := (rdI σ0 0)) hx hb hr (fun t ht hW => ⟨⟨(rdI σ0 0), σ0, rfl, hv, ⟨P_of ht hP, hD⟩⟩, hS.F ht⟩) hS.2.2 dX8_fault_4
set_option maxHeartbeats 4000000 in
set_option maxRecDepth 100000 in
theorem wk_X8_many (l : Launch) (sp : Sp_X8_many) : Ct_X8_many l := by
  intro D cy ad A what_ ag σ0  hpre
  refine Met.ofW (cc := cX8_many) (maxL := 2) (ret := (some .int)) (by decide) rfl ?_
  intro p e s m args below meth c s₁ B hml hv0
  obtain ⟨rfl, hP, hK, hD, hN⟩ := hv0
  have hx := B.exec
  have hb := B.bytes
  have hr := B.returns
  have hts := atoms_spec (ws := wsX8_many) B.pre
  have hown : s.vm.findClass RX8 = some m.cls := findClass_of_methodNamed B.named
  have hlocks := B.notSynchronized
  have hv := sp what_ ag σ0 hpre
  have hl := lv_entry ([.ref (ad 0), .int what_]) (n := 2) (Nat.le_of_ble_eq_true rfl)
  rw [lg_entry_eq]
  generalize (lg_sl ([.ref (ad 0), .int what_]) ++ List.replicate (2 - (lg_sl ([.ref (ad 0), .int what_])).length) Slot.unset).toArray = ls at hl ⊢
  have hl : lv_has ls 2 [(0, .ref (ad 0)), (1, .int what_)] := hl
  refine W_gen (fun R Z H locs hR hZ hH hlo => ?_)
  have hRf : R.frames = 0 := by rw [hR]; rfl
  have hRl : R.locals = 0 := by rw [hR]; rfl
  have hRc : R.cells = 0 := by rw [hR]; rfl
  have hRs : R.slots = 0 := by rw [hR]; rfl
  have hS : va_S A s.heap H locs := by rw [hH, hlo]; exact va_S.rf
  rw [← hH] at hP
  obtain ⟨Q, hQ⟩ : ∃ q : Int32 → S_ → Prop, q = (post_X8_many what_ ag σ0) := ⟨_, rfl⟩
  rw [← hQ] at hv
  have hinX3 : ∀ w ∈ wsX30, w ∈ wsX8_many := by decide +kernel
  have hinX6 : ∀ w ∈ wsX60, w ∈ wsX8_many := by decide +kernel
  have hinX8 : ∀ w ∈ wsX80, w ∈ wsX8_many := by decide +kernel
  refine lv_iload_n hx hb dX8_many_0 rfl (lv_at hl 1 rfl) ?_
  by_cases c2 : what_ = 0
  · have hv := hv.1 c2
    refine lv_tableIn (tgt := 40) hx hb dX8_many_1 (by rw [c2]; decide) (by rw [c2]; decide) (by first | (rw [c2]; done) | (rw [c2]; rfl)) (by decide) ?_
    refine lv_aload_n hx hb dX8_many_40 rfl (lv_at hl 0 rfl) ?_
    refine va_get (ci := 8) (v := .ref (ad 11)) (C := RX8) (T := TX8) (N := 5) hx hb hts hinX8 hown hK hP 0 (wC_0 cy ad σ0) rfl 2 (by decide) (hts (.fieldLink RX8 27 "TaleBans" "land" "LTaleBans$Steppe;") (List.mem_of_getElem? (i := 1) rfl)) (fun x h => h) rfl dX8_many_41 ?_
    refine va_getN (ci := 6) (v := .int (rdI σ0 2)) (C := RX6) (T := TX6) (N := 8) hx hb hts hinX6 hown hK hP 11 (wC_11 cy ad σ0) rfl 5 (by decide) (nw_11 hN) (fun x h => h) rfl dX8_many_44 ?_
    rw [hZ]; rw [hQ] at hv
    exact W.iret (v := (rdI σ0 2)) hx hb hr (fun t ht hW => ⟨⟨(rdI σ0 2), σ0, rfl, hv, ⟨P_of ht hP, hD⟩⟩, hS.F ht⟩) hS.2.2 dX8_many_47
  · have hv := hv.2 c2
    by_cases c3 : what_ = 1
    · have hv := hv.1 c3
      refine lv_tableIn (tgt := 48) hx hb dX8_many_1 (by rw [c3]; decide) (by rw [c3]; decide) (by first | (rw [c3]; done) | (rw [c3]; rfl)) (by decide) ?_
      refine lv_aload_n hx hb dX8_many_48 rfl (lv_at hl 0 rfl) ?_
      refine va_get (ci := 8) (v := .ref (ad 11)) (C := RX8) (T := TX8) (N := 5) hx hb hts hinX8 hown hK hP 0 (wC_0 cy ad σ0) rfl 2 (by decide) (hts (.fieldLink RX8 27 "TaleBans" "land" "LTaleBans$Steppe;") (List.mem_of_getElem? (i := 1) rfl)) (fun x h => h) rfl dX8_many_49 ?_
      refine va_getN (ci := 6) (v := .ref (ad (13))) (C := RX6) (T := TX6) (N := 8) hx hb hts hinX6 hown hK hP 11 (wC_11 cy ad σ0) rfl 1 (by decide) (nw_5 hN) (fun x h => h) rfl dX8_many_52 ?_
      refine va_getN (ci := 3) (v := .int (rdI σ0 5)) (C := RX3) (T := TX3) (N := 3) hx hb hts hinX3 hown hK hP 13 (wC_13 cy ad σ0) rfl 2 (by decide) (nw_3 hN) (fun x h => h) rfl dX8_many_55 ?_
      rw [hZ]; rw [hQ] at hv
      exact W.iret (v := (rdI σ0 5)) hx hb hr (fun t ht hW => ⟨⟨(rdI σ0 5), σ0, rfl, hv, ⟨P_of ht hP, hD⟩⟩, hS.F ht⟩) hS.2.2 dX8_many_58
    · have hv := hv.2 c3
      by_cases c4 : what_ = 2
      · have hv := hv.1 c4
        refine lv_tableIn (tgt := 59) hx hb dX8_many_1 (by rw [c4]; decide) (by rw [c4]; decide) (by first | (rw [c4]; done) | (rw [c4]; rfl)) (by decide) ?_
        refine lv_aload_n hx hb dX8_many_59 rfl (lv_at hl 0 rfl) ?_
        refine va_get (ci := 8) (v := .ref (ad 11)) (C := RX8) (T := TX8) (N := 5) hx hb hts hinX8 hown hK hP 0 (wC_0 cy ad σ0) rfl 2 (by decide) (hts (.fieldLink RX8 27 "TaleBans" "land" "LTaleBans$Steppe;") (List.mem_of_getElem? (i := 1) rfl)) (fun x h => h) rfl dX8_many_60 ?_
        refine va_getN (ci := 6) (v := .ref (ad (15))) (C := RX6) (T := TX6) (N := 8) hx hb hts hinX6 hown hK hP 11 (wC_11 cy ad σ0) rfl 2 (by decide) (nw_7 hN) (fun x h => h) rfl dX8_many_63 ?_
        refine va_getN (ci := 3) (v := .int (rdI σ0 6)) (C := RX3) (T := TX3) (N := 3) hx hb hts hinX3 hown hK hP 15 (wC_15 cy ad σ0) rfl 2 (by decide) (nw_3 hN) (fun x h => h) rfl dX8_many_66 ?_
        rw [hZ]; rw [hQ] at hv
        exact W.iret (v := (rdI σ0 6)) hx hb hr (fun t ht hW => ⟨⟨(rdI σ0 6), σ0, rfl, hv, ⟨P_of ht hP, hD⟩⟩, hS.F ht⟩) hS.2.2 dX8_many_69
      · have hv := hv.2 c4
        by_cases c5 : what_ = 3
        · have hv := hv.1 c5
          refine lv_tableIn (tgt := 70) hx hb dX8_many_1 (by rw [c5]; decide) (by rw [c5]; decide) (by first | (rw [c5]; done) | (rw [c5]; rfl)) (by decide) ?_
          refine lv_aload_n hx hb dX8_many_70 rfl (lv_at hl 0 rfl) ?_
          refine va_get (ci := 8) (v := .ref (ad 11)) (C := RX8) (T := TX8) (N := 5) hx hb hts hinX8 hown hK hP 0 (wC_0 cy ad σ0) rfl 2 (by decide) (hts (.fieldLink RX8 27 "TaleBans" "land" "LTaleBans$Steppe;") (List.mem_of_getElem? (i := 1) rfl)) (fun x h => h) rfl dX8_many_71 ?_
          refine va_getN (ci := 6) (v := .ref (ad (17))) (C := RX6) (T := TX6) (N := 8) hx hb hts hinX6 hown hK hP 11 (wC_11 cy ad σ0) rfl 3 (by decide) (nw_8 hN) (fun x h => h) rfl dX8_many_74 ?_
          refine va_getN (ci := 3) (v := .int (rdI σ0 7)) (C := RX3) (T := TX3) (N := 3) hx hb hts hinX3 hown hK hP 17 (wC_17 cy ad σ0) rfl 2 (by decide) (nw_3 hN) (fun x h => h) rfl dX8_many_77 ?_
          rw [hZ]; rw [hQ] at hv
          exact W.iret (v := (rdI σ0 7)) hx hb hr (fun t ht hW => ⟨⟨(rdI σ0 7), σ0, rfl, hv, ⟨P_of ht hP, hD⟩⟩, hS.F ht⟩) hS.2.2 dX8_many_80
        · have hv := hv.2 c5
          by_cases c6 : what_ = 4
          · have hv := hv.1 c6
            refine lv_tableIn (tgt := 81) hx hb dX8_many_1 (by rw [c6]; decide) (by rw [c6]; decide) (by first | (rw [c6]; done) | (rw [c6]; rfl)) (by decide) ?_
            refine lv_aload_n hx hb dX8_many_81 rfl (lv_at hl 0 rfl) ?_
            refine va_get (ci := 8) (v := .ref (ad 11)) (C := RX8) (T := TX8) (N := 5) hx hb hts hinX8 hown hK hP 0 (wC_0 cy ad σ0) rfl 2 (by decide) (hts (.fieldLink RX8 27 "TaleBans" "land" "LTaleBans$Steppe;") (List.mem_of_getElem? (i := 1) rfl)) (fun x h => h) rfl dX8_many_82 ?_
            refine va_getN (ci := 6) (v := .ref (ad (19))) (C := RX6) (T := TX6) (N := 8) hx hb hts hinX6 hown hK hP 11 (wC_11 cy ad σ0) rfl 4 (by decide) (nw_9 hN) (fun x h => h) rfl dX8_many_85 ?_
            refine va_getN (ci := 3) (v := .int (rdI σ0 8)) (C := RX3) (T := TX3) (N := 3) hx hb hts hinX3 hown hK hP 19 (wC_19 cy ad σ0) rfl 2 (by decide) (nw_3 hN) (fun x h => h) rfl dX8_many_88 ?_
            rw [hZ]; rw [hQ] at hv
            exact W.iret (v := (rdI σ0 8)) hx hb hr (fun t ht hW => ⟨⟨(rdI σ0 8), σ0, rfl, hv, ⟨P_of ht hP, hD⟩⟩, hS.F ht⟩) hS.2.2 dX8_many_91
          · have hv := hv.2 c6
            by_cases c7 : what_ = 5
            · have hv := hv.1 c7
              refine lv_tableIn (tgt := 92) hx hb dX8_many_1 (by rw [c7]; decide) (by rw [c7]; decide) (by first | (rw [c7]; done) | (rw [c7]; rfl)) (by decide) ?_
              refine lv_aload_n hx hb dX8_many_92 rfl (lv_at hl 0 rfl) ?_
              refine va_get (ci := 8) (v := .ref (ad 11)) (C := RX8) (T := TX8) (N := 5) hx hb hts hinX8 hown hK hP 0 (wC_0 cy ad σ0) rfl 2 (by decide) (hts (.fieldLink RX8 27 "TaleBans" "land" "LTaleBans$Steppe;") (List.mem_of_getElem? (i := 1) rfl)) (fun x h => h) rfl dX8_many_93 ?_
              refine va_getN (ci := 6) (v := .int (rdI σ0 4)) (C := RX6) (T := TX6) (N := 8) hx hb hts hinX6 hown hK hP 11 (wC_11 cy ad σ0) rfl 7 (by decide) (nw_13 hN) (fun x h => h) rfl dX8_many_96 ?_
              rw [hZ]; rw [hQ] at hv
              exact W.iret (v := (rdI σ0 4)) hx hb hr (fun t ht hW => ⟨⟨(rdI σ0 4), σ0, rfl, hv, ⟨P_of ht hP, hD⟩⟩, hS.F ht⟩) hS.2.2 dX8_many_99
            · have hv := hv.2 c7
              refine lv_tableOut (tgt := 100) hx hb dX8_many_1 (sw_out (lo := 0) (hi := 5) what_ (fun k h1 h2 hk => by
                have h3 : k = 0 ∨ k = 1 ∨ k = 2 ∨ k = 3 ∨ k = 4 ∨ k = 5 := by omega
                rcases h3 with rfl | rfl | rfl | rfl | rfl | rfl
                · exact c2 (sw_k hk (by decide))
                · exact c3 (sw_k hk (by decide))
                · exact c4 (sw_k hk (by decide))
                · exact c5 (sw_k hk (by decide))
                · exact c6 (sw_k hk (by decide))
                · exact c7 (sw_k hk (by decide)))) (by decide) ?_
              refine lv_bipush (v := (-2)) hx hb dX8_many_100 (by decide) ?_
              rw [hZ]; rw [hQ] at hv
              exact W.iret (v := (-2)) hx hb hr (fun t ht hW => ⟨⟨(-2), σ0, rfl, hv, ⟨P_of ht hP, hD⟩⟩, hS.F ht⟩) hS.2.2 dX8_many_102
