set_option maxHeartbeats 4000000 in
set_option maxRecDepth 100000 in
theorem law_body {p : Program} {e : Env} {s : State} {m : MethodId} {below : List Frame} {meth : Method} {c : Code} (l : Launch) {b L : Nat} {xs : Nat → Int32} (C0 : lw_At p s m meth c b L xs) {D : va_G} {cy : Nat → ClassId} {adC adR : Nat → Nat} (hK : va_K D vwCl (tysK cy) s) (hN : NW s) (hCA : CA2 s) {x3 : Int32} (hin : ∀ j : Nat, j < 6 → vp_in (x3 + nI j) L) {cells slots : Nat} (hcl : cells + 7 ≤ room_1.cells) (hsl : slots + 21 ≤ room_1.slots) {a : AS} {σC σR : S_} {H : Heap} {locs : List Loc} {ls : Array Slot} (hRC : RC a σC) (hRR : RR a σR) (hW : WI D cy adC adR s σC σR H) (hS : va_S (A0s s) s.heap H locs) (hl : lv_has ls 4 [(3, .int x3), (0, .ref b), (1, .ref (adC 0)), (2, .ref (adR 0))]) (kk : ∀ (a : AS) (σC σR : S_) (H : Heap) (locs : List Loc), RC a σC → RR a σR → WI D cy adC adR s σC σR H → va_S (A0s s) s.heap H locs → W p l e room_1 s m #[Value.ref b] below meth c H locs (cells + 7) (slots + 21) (lw_Z below #[Value.ref b] s) (F0 m 1427 ls [])) : W p l e room_1 s m #[Value.ref b] below meth c H locs cells slots (lw_Z below #[Value.ref b] s) (F0 m 27 ls []) := by
  have C1 := C0
  obtain ⟨hx, hb, hr, hml, hown, hts, hX, hbl, hlocks, hgv⟩ := C0
  have htsL : ∀ w ∈ wsL_law, w.before #[Value.ref b] s = true := fun w h => hts w (wsL_law_in w h)
  have hbA : ¬ A0s s b := Nat.not_le.mpr hbl
  have h0 : vp_in x3 L := by have := hin 0 (by decide); rwa [show x3 + nI 0 = x3 from Int32.add_zero x3] at this
  refine lv_aload_n hx hb dL_law_27 rfl (lv_at hl 1 rfl) ?_
  refine lv_iload_n hx hb dL_law_28 rfl (lv_at hl 0 rfl) ?_
  refine va_sld hx hb hX hbl hbA hS h0 dL_law_29 ?_
  refine lv_bipush (v := 63) hx hb dL_law_30 (by decide) ?_
  refine lv_iand hx hb dL_law_32 ?_
  refine lv_topi (fun v hv => ?_)
  clear hv
  by_cases c0 : v = 0
  · refine lv_tableIn (tgt := 196) hx hb dL_law_33 (by rw [c0]; decide) (by rw [c0]; decide) (by first | (rw [c0]; done) | (rw [c0]; rfl)) (by decide) ?_
    exact law_c0 l C1 hK hN hCA hin hcl hsl hRC hRR hW hS hl kk
  by_cases c1 : v = 1
  · refine lv_tableIn (tgt := 249) hx hb dL_law_33 (by rw [c1]; decide) (by rw [c1]; decide) (by first | (rw [c1]; done) | (rw [c1]; rfl)) (by decide) ?_
    exact law_c1 l C1 hK hN hCA hin hcl hsl hRC hRR hW hS hl kk
  by_cases c2 : v = 2
  · refine lv_tableIn (tgt := 282) hx hb dL_law_33 (by rw [c2]; decide) (by rw [c2]; decide) (by first | (rw [c2]; done) | (rw [c2]; rfl)) (by decide) ?_
    exact law_c2 l C1 hK hN hCA hin hcl hsl hRC hRR hW hS hl kk
  by_cases c3 : v = 3
  · refine lv_tableIn (tgt := 325) hx hb dL_law_33 (by rw [c3]; decide) (by rw [c3]; decide) (by first | (rw [c3]; done) | (rw [c3]; rfl)) (by decide) ?_
    exact law_c3 l C1 hK hN hCA hin hcl hsl hRC hRR hW hS hl kk
  by_cases c4 : v = 4
  · refine lv_tableIn (tgt := 348) hx hb dL_law_33 (by rw [c4]; decide) (by rw [c4]; decide) (by first | (rw [c4]; done) | (rw [c4]; rfl)) (by decide) ?_
    exact law_c4 l C1 hK hN hCA hin hcl hsl hRC hRR hW hS hl kk
  by_cases c5 : v = 5
  · refine lv_tableIn (tgt := 391) hx hb dL_law_33 (by rw [c5]; decide) (by rw [c5]; decide) (by first | (rw [c5]; done) | (rw [c5]; rfl)) (by decide) ?_
    exact law_c5 l C1 hK hN hCA hin hcl hsl hRC hRR hW hS hl kk
  by_cases c6 : v = 6
  · refine lv_tableIn (tgt := 414) hx hb dL_law_33 (by rw [c6]; decide) (by rw [c6]; decide) (by first | (rw [c6]; done) | (rw [c6]; rfl)) (by decide) ?_
    exact law_c6 l C1 hK hN hCA hin hcl hsl hRC hRR hW hS hl kk
  by_cases c7 : v = 7
  · refine lv_tableIn (tgt := 437) hx hb dL_law_33 (by rw [c7]; decide) (by rw [c7]; decide) (by first | (rw [c7]; done) | (rw [c7]; rfl)) (by decide) ?_
    exact law_c7 l C1 hK hN hCA hin hcl hsl hRC hRR hW hS hl kk
  by_cases c8 : v = 8
  · refine lv_tableIn (tgt := 486) hx hb dL_law_33 (by rw [c8]; decide) (by rw [c8]; decide) (by first | (rw [c8]; done) | (rw [c8]; rfl)) (by decide) ?_
    exact law_c8 l C1 hK hN hCA hin hcl hsl hRC hRR hW hS hl kk
  by_cases c9 : v = 9
  · refine lv_tableIn (tgt := 535) hx hb dL_law_33 (by rw [c9]; decide) (by rw [c9]; decide) (by first | (rw [c9]; done) | (rw [c9]; rfl)) (by decide) ?_
    exact law_c9 l C1 hK hN hCA hin hcl hsl hRC hRR hW hS hl kk
  by_cases c10 : v = 10
  · refine lv_tableIn (tgt := 568) hx hb dL_law_33 (by rw [c10]; decide) (by rw [c10]; decide) (by first | (rw [c10]; done) | (rw [c10]; rfl)) (by decide) ?_
    exact law_c10 l C1 hK hN hCA hin hcl hsl hRC hRR hW hS hl kk
  by_cases c11 : v = 11
  · refine lv_tableIn (tgt := 601) hx hb dL_law_33 (by rw [c11]; decide) (by rw [c11]; decide) (by first | (rw [c11]; done) | (rw [c11]; rfl)) (by decide) ?_
    exact law_c11 l C1 hK hN hCA hin hcl hsl hRC hRR hW hS hl kk
  by_cases c12 : v = 12
  · refine lv_tableIn (tgt := 634) hx hb dL_law_33 (by rw [c12]; decide) (by rw [c12]; decide) (by first | (rw [c12]; done) | (rw [c12]; rfl)) (by decide) ?_
    exact law_c12 l C1 hK hN hCA hin hcl hsl hRC hRR hW hS hl kk
  by_cases c13 : v = 13
  · refine lv_tableIn (tgt := 657) hx hb dL_law_33 (by rw [c13]; decide) (by rw [c13]; decide) (by first | (rw [c13]; done) | (rw [c13]; rfl)) (by decide) ?_
    exact law_c13 l C1 hK hN hCA hin hcl hsl hRC hRR hW hS hl kk
  by_cases c14 : v = 14
  · refine lv_tableIn (tgt := 680) hx hb dL_law_33 (by rw [c14]; decide) (by rw [c14]; decide) (by first | (rw [c14]; done) | (rw [c14]; rfl)) (by decide) ?_
    exact law_c14 l C1 hK hN hCA hin hcl hsl hRC hRR hW hS hl kk
  by_cases c15 : v = 15
  · refine lv_tableIn (tgt := 713) hx hb dL_law_33 (by rw [c15]; decide) (by rw [c15]; decide) (by first | (rw [c15]; done) | (rw [c15]; rfl)) (by decide) ?_
    exact law_c15 l C1 hK hN hCA hin hcl hsl hRC hRR hW hS hl kk
  by_cases c16 : v = 16
  · refine lv_tableIn (tgt := 746) hx hb dL_law_33 (by rw [c16]; decide) (by rw [c16]; decide) (by first | (rw [c16]; done) | (rw [c16]; rfl)) (by decide) ?_
    exact law_c16 l C1 hK hN hCA hin hcl hsl hRC hRR hW hS hl kk
  by_cases c17 : v = 17
  · refine lv_tableIn (tgt := 779) hx hb dL_law_33 (by rw [c17]; decide) (by rw [c17]; decide) (by first | (rw [c17]; done) | (rw [c17]; rfl)) (by decide) ?_
    exact law_c17 l C1 hK hN hCA hin hcl hsl hRC hRR hW hS hl kk
  by_cases c18 : v = 18
  · refine lv_tableIn (tgt := 812) hx hb dL_law_33 (by rw [c18]; decide) (by rw [c18]; decide) (by first | (rw [c18]; done) | (rw [c18]; rfl)) (by decide) ?_
    exact law_c18 l C1 hK hN hCA hin hcl hsl hRC hRR hW hS hl kk
  by_cases c19 : v = 19
  · refine lv_tableIn (tgt := 835) hx hb dL_law_33 (by rw [c19]; decide) (by rw [c19]; decide) (by first | (rw [c19]; done) | (rw [c19]; rfl)) (by decide) ?_
    exact law_c19 l C1 hK hN hCA hin hcl hsl hRC hRR hW hS hl kk
  by_cases c20 : v = 20
  · refine lv_tableIn (tgt := 898) hx hb dL_law_33 (by rw [c20]; decide) (by rw [c20]; decide) (by first | (rw [c20]; done) | (rw [c20]; rfl)) (by decide) ?_
    exact law_c20 l C1 hK hN hCA hin hcl hsl hRC hRR hW hS hl kk
  by_cases c21 : v = 21
  · refine lv_tableIn (tgt := 967) hx hb dL_law_33 (by rw [c21]; decide) (by rw [c21]; decide) (by first | (rw [c21]; done) | (rw [c21]; rfl)) (by decide) ?_
    exact law_c21 l C1 hK hN hCA hin hcl hsl hRC hRR hW hS hl kk
  by_cases c22 : v = 22
  · refine lv_tableIn (tgt := 990) hx hb dL_law_33 (by rw [c22]; decide) (by rw [c22]; decide) (by first | (rw [c22]; done) | (rw [c22]; rfl)) (by decide) ?_
    exact law_c22 l C1 hK hN hCA hin hcl hsl hRC hRR hW hS hl kk
  by_cases c23 : v = 23
  · refine lv_tableIn (tgt := 1013) hx hb dL_law_33 (by rw [c23]; decide) (by rw [c23]; decide) (by first | (rw [c23]; done) | (rw [c23]; rfl)) (by decide) ?_
    exact law_c23 l C1 hK hN hCA hin hcl hsl hRC hRR hW hS hl kk
  by_cases c24 : v = 24
  · refine lv_tableIn (tgt := 1026) hx hb dL_law_33 (by rw [c24]; decide) (by rw [c24]; decide) (by first | (rw [c24]; done) | (rw [c24]; rfl)) (by decide) ?_
    exact law_c24 l C1 hK hN hCA hin hcl hsl hRC hRR hW hS hl kk
  by_cases c25 : v = 25
  · refine lv_tableIn (tgt := 1039) hx hb dL_law_33 (by rw [c25]; decide) (by rw [c25]; decide) (by first | (rw [c25]; done) | (rw [c25]; rfl)) (by decide) ?_
    exact law_c25 l C1 hK hN hCA hin hcl hsl hRC hRR hW hS hl kk
  by_cases c26 : v = 26
  · refine lv_tableIn (tgt := 1083) hx hb dL_law_33 (by rw [c26]; decide) (by rw [c26]; decide) (by first | (rw [c26]; done) | (rw [c26]; rfl)) (by decide) ?_
    exact law_c26 l C1 hK hN hCA hin hcl hsl hRC hRR hW hS hl kk
  by_cases c27 : v = 27
  · refine lv_tableIn (tgt := 1126) hx hb dL_law_33 (by rw [c27]; decide) (by rw [c27]; decide) (by first | (rw [c27]; done) | (rw [c27]; rfl)) (by decide) ?_
    exact law_c27 l C1 hK hN hCA hin hcl hsl hRC hRR hW hS hl kk
  by_cases c28 : v = 28
  · refine lv_tableIn (tgt := 1149) hx hb dL_law_33 (by rw [c28]; decide) (by rw [c28]; decide) (by first | (rw [c28]; done) | (rw [c28]; rfl)) (by decide) ?_
    exact law_c28 l C1 hK hN hCA hin hcl hsl hRC hRR hW hS hl kk
  by_cases c29 : v = 29
  · refine lv_tableIn (tgt := 1192) hx hb dL_law_33 (by rw [c29]; decide) (by rw [c29]; decide) (by first | (rw [c29]; done) | (rw [c29]; rfl)) (by decide) ?_
    exact law_c29 l C1 hK hN hCA hin hcl hsl hRC hRR hW hS hl kk
  by_cases c30 : v = 30
  · refine lv_tableIn (tgt := 1236) hx hb dL_law_33 (by rw [c30]; decide) (by rw [c30]; decide) (by first | (rw [c30]; done) | (rw [c30]; rfl)) (by decide) ?_
    exact law_c30 l C1 hK hN hCA hin hcl hsl hRC hRR hW hS hl kk
  by_cases c31 : v = 31
  · refine lv_tableIn (tgt := 1299) hx hb dL_law_33 (by rw [c31]; decide) (by rw [c31]; decide) (by first | (rw [c31]; done) | (rw [c31]; rfl)) (by decide) ?_
    exact law_c31 l C1 hK hN hCA hin hcl hsl hRC hRR hW hS hl kk
  by_cases c32 : v = 32
  · refine lv_tableIn (tgt := 1322) hx hb dL_law_33 (by rw [c32]; decide) (by rw [c32]; decide) (by first | (rw [c32]; done) | (rw [c32]; rfl)) (by decide) ?_
    exact law_c32 l C1 hK hN hCA hin hcl hsl hRC hRR hW hS hl kk
  by_cases c33 : v = 33
  · refine lv_tableIn (tgt := 1345) hx hb dL_law_33 (by rw [c33]; decide) (by rw [c33]; decide) (by first | (rw [c33]; done) | (rw [c33]; rfl)) (by decide) ?_
    exact law_c33 l C1 hK hN hCA hin hcl hsl hRC hRR hW hS hl kk
  by_cases c34 : v = 34
  · refine lv_tableIn (tgt := 1378) hx hb dL_law_33 (by rw [c34]; decide) (by rw [c34]; decide) (by first | (rw [c34]; done) | (rw [c34]; rfl)) (by decide) ?_
    exact law_c34 l C1 hK hN hCA hin hcl hsl hRC hRR hW hS hl kk
  by_cases c35 : v = 35
  · refine lv_tableIn (tgt := 1391) hx hb dL_law_33 (by rw [c35]; decide) (by rw [c35]; decide) (by first | (rw [c35]; done) | (rw [c35]; rfl)) (by decide) ?_
    exact law_c35 l C1 hK hN hCA hin hcl hsl hRC hRR hW hS hl kk
  by_cases c36 : v = 36
  · refine lv_tableIn (tgt := 1404) hx hb dL_law_33 (by rw [c36]; decide) (by rw [c36]; decide) (by first | (rw [c36]; done) | (rw [c36]; rfl)) (by decide) ?_
    exact law_c36 l C1 hK hN hCA hin hcl hsl hRC hRR hW hS hl kk
  refine lv_tableOut (tgt := 1427) hx hb dL_law_33 (sw_out (lo := 0) (hi := 36) v (fun k h1 h2 hk => by
    have h3 : k = 0 ∨ k = 1 ∨ k = 2 ∨ k = 3 ∨ k = 4 ∨ k = 5 ∨ k = 6 ∨ k = 7 ∨ k = 8 ∨ k = 9 ∨ k = 10 ∨ k = 11 ∨ k = 12 ∨ k = 13 ∨ k = 14 ∨ k = 15 ∨ k = 16 ∨ k = 17 ∨ k = 18 ∨ k = 19 ∨ k = 20 ∨ k = 21 ∨ k = 22 ∨ k = 23 ∨ k = 24 ∨ k = 25 ∨ k = 26 ∨ k = 27 ∨ k = 28 ∨ k = 29 ∨ k = 30 ∨ k = 31 ∨ k = 32 ∨ k = 33 ∨ k = 34 ∨ k = 35 ∨ k = 36 := by omega
    rcases h3 with rfl | rfl | rfl | rfl | rfl | rfl | rfl | rfl | rfl | rfl | rfl | rfl | rfl | rfl | rfl | rfl | rfl | rfl | rfl | rfl | rfl | rfl | rfl | rfl | rfl | rfl | rfl | rfl | rfl | rfl | rfl | rfl | rfl | rfl | rfl | rfl | rfl
    · exact c0 (sw_k hk (by decide))
    · exact c1 (sw_k hk (by decide))
    · exact c2 (sw_k hk (by decide))
    · exact c3 (sw_k hk (by decide))
    · exact c4 (sw_k hk (by decide))
    · exact c5 (sw_k hk (by decide))
    · exact c6 (sw_k hk (by decide))
    · exact c7 (sw_k hk (by decide))
    · exact c8 (sw_k hk (by decide))
    · exact c9 (sw_k hk (by decide))
    · exact c10 (sw_k hk (by decide))
    · exact c11 (sw_k hk (by decide))
    · exact c12 (sw_k hk (by decide))
    · exact c13 (sw_k hk (by decide))
    · exact c14 (sw_k hk (by decide))
    · exact c15 (sw_k hk (by decide))
    · exact c16 (sw_k hk (by decide))
    · exact c17 (sw_k hk (by decide))
    · exact c18 (sw_k hk (by decide))
    · exact c19 (sw_k hk (by decide))
    · exact c20 (sw_k hk (by decide))
    · exact c21 (sw_k hk (by decide))
    · exact c22 (sw_k hk (by decide))
    · exact c23 (sw_k hk (by decide))
    · exact c24 (sw_k hk (by decide))
    · exact c25 (sw_k hk (by decide))
    · exact c26 (sw_k hk (by decide))
    · exact c27 (sw_k hk (by decide))
    · exact c28 (sw_k hk (by decide))
    · exact c29 (sw_k hk (by decide))
    · exact c30 (sw_k hk (by decide))
    · exact c31 (sw_k hk (by decide))
    · exact c32 (sw_k hk (by decide))
    · exact c33 (sw_k hk (by decide))
    · exact c34 (sw_k hk (by decide))
    · exact c35 (sw_k hk (by decide))
    · exact c36 (sw_k hk (by decide)))) (by decide) ?_
  refine W.widen (k := cells + 7) (n := slots + 21) (by omega) (by omega) ?_
  exact kk _ _ _ _ _ hRC hRR hW hS
