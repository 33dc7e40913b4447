theorem sh_no {k : Int32} {σ : S_} (h : fn_X8_sheetAt k σ = none) : ¬ inR k 4 := by
  intro q; unfold fn_X8_sheetAt at h
  have q' : 0 ≤ k ∧ k < 4 := q
  rw [if_pos q'] at h; cases h
theorem sh_so {k : Int32} {j : Nat} {σ : S_} (h : fn_X8_sheetAt k σ = some j) : inR k 4 ∧ k = nI j ∧ j < 4 ∧ toN k = j := by
  unfold fn_X8_sheetAt at h
  by_cases c : 0 ≤ k ∧ k < 4
  · rw [if_pos c] at h
    obtain ⟨q, hq, rfl⟩ := one_of (show (4 : Int32) = nI 4 from rfl) (by decide) c
    have e : Int32.toNatClampNeg (nI q) = j := Option.some.inj h
    rw [z_cl (by omega)] at e
    subst e
    exact ⟨c, rfl, hq, z_cl (by omega)⟩
  · rw [if_neg c] at h; cases h
theorem sub_toInt {L N : Nat} (hL : L ≤ 1000) (hN : N < 2147483648) : (nI L - nI N).toInt = (L : Int) - N := by
  rw [Int32.toInt_sub, nI_toInt (by omega), nI_toInt hN]
  have h1 : (-2147483648 : Int) ≤ (L : Int) - N := by omega
  have h2 : (L : Int) - N < 2147483648 := by omega
  exact Int.bmod_eq_of_le (by omega) (by omega)
theorem rch {L : Nat} {i n : Int32} (hL : L ≤ 1000) : (0 ≤ i ∧ 0 ≤ n ∧ i ≤ nI L - n) ↔ (0 ≤ i.toInt ∧ 0 ≤ n.toInt ∧ i.toInt + n.toInt ≤ (L : Int)) := by
  have e0 : (0 : Int32).toInt = 0 := rfl
  constructor
  · rintro ⟨h1, h2, h3⟩
    obtain ⟨N, hN, rfl⟩ := nI_of (x := n) (Int32.not_lt.mpr h2)
    rw [Int32.le_iff_toInt_le, sub_toInt hL hN] at h3
    rw [Int32.le_iff_toInt_le, e0] at h1 h2
    rw [nI_toInt hN] at h2 ⊢
    exact ⟨h1, h2, by omega⟩
  · rintro ⟨h1, h2, h3⟩
    have h2' : 0 ≤ n := by rw [Int32.le_iff_toInt_le, e0]; exact h2
    obtain ⟨N, hN, rfl⟩ := nI_of (x := n) (Int32.not_lt.mpr h2')
    rw [nI_toInt hN] at h2 h3
    refine ⟨by rw [Int32.le_iff_toInt_le, e0]; exact h1, h2', ?_⟩
    rw [Int32.le_iff_toInt_le, sub_toInt hL hN]; omega
theorem lane_is {a : AS} {σ : S_} (hw : WF a) (h : RC1 a σ) {k : Nat} (hk : k < 4) : (rdI σ (12 + k) = -1 ↔ aSz a k = 0) ∧ (¬ aSz a k = 0 → rdI σ (12 + k) = nI (aLane a k)) ∧ rdI σ (16 + k) = nI (aSz a k - 1) ∧ aSz a k ≤ 61 ∧ aLane a k < 3 := by
  obtain ⟨e1, e2, e3⟩ := h.2.2 k hk
  have hs := wf_s hw hk
  have nm : ∀ m, m < 100 → ¬ nI m = (-1 : Int32) := by decide +kernel
  refine ⟨⟨fun q => ?_, fun q => by rw [e1, if_pos q]⟩, fun q => by rw [e1, if_neg q], e2, hs.1, hs.2⟩
  by_cases c : aSz a k = 0
  · exact c
  · rw [e1, if_neg c] at q; exact absurd q (nm _ (by omega))
theorem fot_is {a : AS} {σ : S_} (hw : WF a) (h : RC1 a σ) {k : Nat} (hk : k < 4) (lane i n : Int32) : fn_X5_faultOfTaking k lane i n σ = nI (barF a k lane i n) := by
  obtain ⟨l1, l2, l3, l4, l5⟩ := lane_is hw h hk
  unfold fn_X5_faultOfTaking barF
  by_cases c : aSz a k = 0
  · rw [if_neg (fun q => q.1 (l1.mpr c)), if_pos (l1.mpr c), if_neg (fun q => q.1 c), if_pos c]; rfl
  · have c' : ¬ rdI σ (12 + k) = -1 := fun q => c (l1.mp q)
    rw [l2 c] at c' ⊢
    by_cases d : nI (aLane a k) = lane
    · have n1 : ¬ (¬ nI (aLane a k) = -1 ∧ ¬ nI (aLane a k) = lane) := fun q => q.2 d
      have n2 : ¬ (¬ aSz a k = 0 ∧ ¬ nI (aLane a k) = lane) := fun q => q.2 d
      rw [if_neg n1, if_neg c', if_neg n2, if_neg c]
      by_cases e : n < 0
      · rw [if_pos e, if_pos e]; rfl
      · rw [if_neg e, if_neg e, l3]
        have hr := rch (L := aSz a k - 1) (i := i) (n := n) (by omega)
        have e0 : (0 : Int32).toInt = 0 := rfl
        by_cases f : 0 ≤ i ∧ i.toInt + n.toInt ≤ ((aSz a k - 1 : Nat) : Int)
        · rw [if_pos f, if_pos (hr.mpr ⟨by have := f.1; rw [Int32.le_iff_toInt_le, e0] at this; exact this, by have := Int32.not_lt.mp e; rw [Int32.le_iff_toInt_le, e0] at this; exact this, f.2⟩)]; rfl
        · rw [if_neg f, if_neg (fun q => f ⟨q.1, (hr.mp q).2.2⟩)]; rfl
    · rw [if_pos ⟨c', d⟩, if_pos ⟨c, d⟩]; rfl
theorem barF_le (a : AS) (k : Nat) (lane i n : Int32) : barF a k lane i n ≤ 4 := by
  unfold barF; repeat (first | decide | split)
/-- what a taking that is not barred takes -/
theorem barF_0 {a : AS} {σ : S_} (hw : WF a) (h : RC1 a σ) {k : Nat} (hk : k < 4) {lane i n : Int32} (h0 : barF a k lane i n = 0) : ∃ F N : Nat, i = nI F ∧ n = nI N ∧ F + N ≤ aSz a k - 1 ∧ toN i = F ∧ toN n = N ∧ ¬ aSz a k = 0 ∧ aSz a k ≤ 61 ∧ rowOK k i n F N σ := by
  obtain ⟨l1, l2, l3, l4, l5⟩ := lane_is hw h hk
  unfold barF at h0
  by_cases c1 : ¬ aSz a k = 0 ∧ ¬ nI (aLane a k) = lane
  · rw [if_pos c1] at h0; cases h0
  · rw [if_neg c1] at h0
    by_cases c2 : aSz a k = 0
    · rw [if_pos c2] at h0; cases h0
    · rw [if_neg c2] at h0
      by_cases c3 : n < 0
      · rw [if_pos c3] at h0; cases h0
      · rw [if_neg c3] at h0
        by_cases c4 : 0 ≤ i ∧ i.toInt + n.toInt ≤ ((aSz a k - 1 : Nat) : Int)
        · obtain ⟨N, hN, rfl⟩ := nI_of c3
          obtain ⟨F, hF, rfl⟩ := nI_of (x := i) (Int32.not_lt.mpr c4.1)
          have h4 := c4.2
          rw [nI_toInt hF, nI_toInt hN] at h4
          have h5 : F + N ≤ aSz a k - 1 := by omega
          exact ⟨F, N, rfl, rfl, h5, z_cl hF, z_cl hN, c2, l4, rfl, rfl, aSz a k - 1, by omega, l3, h5⟩
        · rw [if_neg c4] at h0; cases h0
theorem sheet_mono {a a' : AS} {x y : S_} (h : RC a x) (j : Nat) (hj : j < 4) (hI : ∀ k, k ≠ 12 + j → k ≠ 16 + j → rdI y k = rdI x k) (hA : ∀ i, i ≠ j → rdA y i = rdA x i) (h2 : y.2 = x.2)
    (e1 : ∀ k, a'.1 k = a.1 k) (e2 : ∀ i, i < 16 → a'.2.1 i = a.2.1 i) (et : aTr a' = aTr a) (es : ∀ k, k ≠ j → aSz a' k = aSz a k ∧ aLane a' k = aLane a k ∧ ∀ i, aCell a' k i = aCell a k i)
    (ew : aSz a' j ≤ 61 ∧ aLane a' j < 3) (er : rdI y (12 + j) = (if aSz a' j = 0 then -1 else nI (aLane a' j)) ∧ rdI y (16 + j) = nI (aSz a' j - 1) ∧ ∀ i, i + 1 < aSz a' j → rdA y j i = aCell a' j i) : RC a' y := by
  obtain ⟨⟨⟨w1, w2, w3, w4, w5, w6, w7, w8, w9, w10, w11, w12, w13, w14, w15, w16⟩, f2, f5, f6, f7, f8, ht, hm, hn, hr, hH, hpp⟩, g3, g4, f0, f1, hs⟩ := h
  obtain ⟨b1, b2, b3, b4⟩ := a'
  obtain ⟨d1, d2, d3, d4⟩ := a
  have q1 : b1 = d1 := funext e1
  subst q1
  have r2 : ∀ i, i < 16 → b2 i = d2 i := e2
  have lf : ∀ i, i < 16 → ∀ k, b2 i k = d2 i k := fun i hi k => congrFun (r2 i hi) k
  refine ⟨⟨⟨w1, w2, w3, w4, w5, w6, w7, w8, w9, ?_, ?_, ?_, ?_, ?_, ?_, w16⟩, ?_, ?_, ?_, ?_, ?_, ?_, ?_, ?_, ?_, ?_, ?_⟩, ?_, ?_, ?_, ?_, ?_⟩
  · intro p hp; have := w10 p hp; unfold aKind aMinds aHome at this ⊢; dsimp only at this ⊢; rw [r2 0 (by decide), r2 1 (by decide), r2 2 (by decide)]; exact this
  · intro p hp; have := w11 p hp; unfold aDeed aTo aTin aPar at this ⊢; dsimp only at this ⊢; rw [r2 3 (by decide), r2 4 (by decide), r2 5 (by decide), r2 6 (by decide)]; exact this
  · intro p hp; have := w12 p hp; unfold aMof aMto aMin at this ⊢; dsimp only at this ⊢; rw [r2 7 (by decide), r2 8 (by decide), r2 9 (by decide)]; exact this
  · intro p hp; have := w13 p hp; unfold aN1 aN2 at this ⊢; dsimp only at this ⊢; rw [r2 10 (by decide), r2 11 (by decide)]; exact this
  · intro p hp; have := w14 p hp; unfold aRof aRt aRin aRdid at this ⊢; dsimp only at this ⊢; rw [r2 12 (by decide), r2 13 (by decide), r2 14 (by decide), r2 15 (by decide)]; exact this
  · intro k hk
    by_cases c : k = j
    · rw [c]; exact ew
    · rw [(es k c).1, (es k c).2.1]; exact w15 k hk
  · rw [hI 2 (by omega) (by omega)]; exact f2
  · rw [hI 5 (by omega) (by omega)]; exact f5
  · rw [hI 6 (by omega) (by omega)]; exact f6
  · rw [hI 7 (by omega) (by omega)]; exact f7
  · rw [hI 8 (by omega) (by omega)]; exact f8
  · intro p hp; rw [hA 4 (by omega)]; have := ht p hp; unfold aDeed aTo aTin aPar at this ⊢; dsimp only at this ⊢; rw [r2 3 (by decide), r2 4 (by decide), r2 5 (by decide), r2 6 (by decide)]; exact this
  · intro p hp; rw [hA 5 (by omega)]; have := hm p hp; unfold aMof aMto aMin at this ⊢; dsimp only at this ⊢; rw [r2 7 (by decide), r2 8 (by decide), r2 9 (by decide)]; exact this
  · intro p hp; rw [hA 6 (by omega)]; have := hn p hp; unfold aN1 aN2 at this ⊢; dsimp only at this ⊢; rw [r2 10 (by decide), r2 11 (by decide)]; exact this
  · intro p hp; rw [hA 7 (by omega)]; have := hr p hp; unfold aRof aRt aRin aRdid at this ⊢; dsimp only at this ⊢; rw [r2 12 (by decide), r2 13 (by decide), r2 14 (by decide), r2 15 (by decide)]; exact this
  · unfold nH; rw [h2]; exact hH
  · intro p hp; rw [hget_same h2]; unfold pg; rw [h2]; have := hpp p hp; unfold aKind aMinds aHome at this ⊢; dsimp only at this ⊢; rw [r2 0 (by decide), r2 1 (by decide), r2 2 (by decide)]; exact this
  · rw [hI 3 (by omega) (by omega)]; exact g3
  · rw [hI 4 (by omega) (by omega)]; exact g4
  · rw [hI 0 (by omega) (by omega)]; exact f0
  · rw [hI 1 (by omega) (by omega), et]; exact f1
  · intro k hk
    by_cases c : k = j
    · subst c; exact er
    · rw [(es k c).1, (es k c).2.1, hI _ (by omega) (by omega), hI _ (by omega) (by omega), hA k c]
      refine ⟨(hs k hk).1, (hs k hk).2.1, fun i hi => ?_⟩
      rw [(es k c).2.2]; exact (hs k hk).2.2 i hi
theorem sp_X8_sheet : Sp_X8_sheet := by
  intro k lane n a σ hp
  have hC0 : RC a σ := hp
  rintro σ1 rfl
  have hC : RC (setN a 7 0) (wrI σ 0 0) := rc_flt hC0 (Nat.zero_le 4)
  refine ⟨fun hn => ?_, fun j hj => ?_⟩
  · have := sh_no hn
    exact ⟨by unfold res_sheet; rw [if_pos this], by unfold nxt_sheet; rw [if_pos this]; exact hC⟩
  · obtain ⟨q1, rfl, q3, q4⟩ := sh_so hj
    have k1 : ¬ ¬ inR (nI j) 4 := fun z => z q1
    refine ⟨q3, fun h => ?_, fun h => ⟨fun h60 => ⟨fun h0 => ⟨h60, fun σ5 h5 => ?_⟩, fun h0 => ?_⟩, fun h60 => ?_⟩⟩
    · rw [b2i_0] at h
      have c : ¬ inR lane 3 ∨ 60 < n := Or.inl h
      exact ⟨by unfold res_sheet; rw [if_neg k1, if_pos c], by unfold nxt_sheet; rw [if_neg k1, if_pos c]; exact hC⟩
    · rw [b2i_0, Classical.not_not] at h
      have c : ¬ (¬ inR lane 3 ∨ 60 < n) := fun z => z.elim (fun y => y h) (Int32.not_lt.mpr h60)
      have c0 : ¬ n < 0 := Int32.not_lt.mpr h0
      obtain ⟨l, hl, rfl⟩ := (inR_iff (n := 3) (by decide)).mp h
      obtain ⟨N, hN, rfl⟩ := nI_of c0
      rw [show (60 : Int32) = nI 60 from rfl, z_le (by omega) (by decide)] at h60
      have t1 : toN (nI N) = N := z_cl hN
      have t2 : toN (nI l) = l := z_cl (by omega)
      refine ⟨by unfold res_sheet; rw [if_neg k1, if_neg c, if_neg c0], ?_⟩
      unfold nxt_sheet
      rw [if_neg k1, if_neg c, if_neg c0, q4, t1, t2]
      have h5' : σ5 = wrA (wrI (wrI (wrI σ 0 0) (12 + j) (nI l)) (16 + j) (nI N)) j (fillF (rdA (wrI σ 0 0) j) 60 0) := h5
      subst h5'
      have s16 : ∀ x, aSz (setC (set2 (set2 (setN a 7 0) 16 j (N + 1)) 17 j l) j (fun _ => 0)) x = if x = j then N + 1 else aSz a x := fun _ => rfl
      have s17 : ∀ x, aLane (setC (set2 (set2 (setN a 7 0) 16 j (N + 1)) 17 j l) j (fun _ => 0)) x = if x = j then l else aLane a x := fun _ => rfl
      refine sheet_mono hC j q3 (fun x h1 h2 => ?_) (fun i hi => ?_) rfl (fun _ => rfl) (fun i hi => ?_) rfl (fun x hx => ⟨?_, ?_, fun i => ?_⟩) ⟨?_, ?_⟩ ⟨?_, ?_, fun i hi => ?_⟩
      · rw [rI_wA, rI_ne _ _ h2, rI_ne _ _ h1]
      · rw [rA_wA, if_neg hi]; rfl
      · show va_up (va_up a.2.1 16 _) 17 _ i = a.2.1 i
        unfold va_up; rw [if_neg (by omega), if_neg (by omega)]
      · rw [s16, if_neg hx]; rfl
      · rw [s17, if_neg hx]; rfl
      · show va_up a.2.2.1 j _ x i = a.2.2.1 x i
        unfold va_up; rw [if_neg hx]
      · rw [s16, if_pos rfl]; omega
      · rw [s17, if_pos rfl]; exact hl
      · rw [s16, s17, if_pos rfl, if_pos rfl, if_neg (by omega), rI_wA, rI_ne _ _ (by omega), rI_same]
      · rw [s16, if_pos rfl, Nat.add_sub_cancel, rI_wA, rI_same]
      · rw [s16, if_pos rfl] at hi
        rw [rA_wA, if_pos rfl]
        show (if i < 60 then (0 : Int32) else _) = va_up a.2.2.1 j (fun _ => 0) j i
        unfold va_up; rw [if_pos (by omega), if_pos rfl]
    · rw [b2i_0, Classical.not_not] at h
      have c : ¬ (¬ inR lane 3 ∨ 60 < n) := fun z => z.elim (fun y => y h) (Int32.not_lt.mpr h60)
      have c0 : n < 0 := Int32.not_le.mp h0
      rintro r7 σ6 ⟨h6, h7⟩
      refine ⟨by unfold res_sheet; rw [if_neg k1, if_neg c, if_pos c0, h6]; decide, ?_⟩
      unfold nxt_sheet; rw [if_neg k1, if_neg c, if_pos c0, h7]
      have := rc_flt hC (v := 4) (by decide)
      rw [setN_setN] at this; exact this
    · have c : ¬ inR lane 3 ∨ 60 < n := Or.inr (Int32.not_le.mp h60)
      exact ⟨by unfold res_sheet; rw [if_neg k1, if_pos c], by unfold nxt_sheet; rw [if_neg k1, if_pos c]; exact hC⟩
theorem sp_X8_lose : Sp_X8_lose := by
  intro k a σ hp
  have hC : RC a σ := hp
  refine ⟨fun hn => ?_, fun j hj => ?_⟩
  · have := sh_no hn
    exact ⟨by unfold res_lose; rw [if_pos this], by unfold nxt_lose; rw [if_pos this]; exact hC⟩
  · obtain ⟨q1, rfl, q3, q4⟩ := sh_so hj
    have k1 : ¬ ¬ inR (nI j) 4 := fun z => z q1
    obtain ⟨l1, l2, l3, l4, l5⟩ := lane_is hC.1.1 hC.2.2.2 q3
    have key : ∀ σ3 : S_, (∀ x, x ≠ 12 + j → x ≠ 16 + j → rdI σ3 x = rdI σ x) → (∀ i, i ≠ j → rdA σ3 i = rdA σ i) → σ3.2 = σ.2 → rdI σ3 (12 + j) = -1 → rdI σ3 (16 + j) = 0 → RC (set2 a 16 j 0) σ3 := by
      intro σ3 h1 h2 h3 h4 h5
      have s16 : ∀ x, aSz (set2 a 16 j 0) x = if x = j then 0 else aSz a x := fun _ => rfl
      refine sheet_mono hC j q3 h1 h2 h3 (fun _ => rfl) (fun i hi => ?_) rfl (fun x hx => ⟨by rw [s16, if_neg hx], rfl, fun _ => rfl⟩) ⟨by rw [s16, if_pos rfl]; decide, l5⟩ ⟨by rw [s16, if_pos rfl, if_pos rfl]; exact h4, by rw [s16, if_pos rfl]; exact h5, fun i hi => ?_⟩
      · show va_up a.2.1 16 _ i = a.2.1 i
        unfold va_up; rw [if_neg (by omega)]
      · rw [s16, if_pos rfl] at hi; omega
    refine ⟨q3, fun h => ?_, fun h => ?_⟩
    · rw [b2i_0] at h
      have c : ¬ aSz a j = 0 := fun z => h (l1.mpr z)
      intro σ3 h3
      refine ⟨by unfold res_lose; rw [if_neg k1, q4, if_neg c], ?_⟩
      unfold nxt_lose; rw [if_neg k1, q4]
      have h3' : σ3 = wrI (wrI σ (12 + j) (-1)) (16 + j) 0 := h3
      subst h3'
      exact key _ (fun x h1 h2 => by rw [rI_ne _ _ h2, rI_ne _ _ h1]) (fun _ _ => rfl) rfl (by rw [rI_ne _ _ (by omega), rI_same]) (rI_same _ _ _)
    · rw [b2i_0, Classical.not_not] at h
      have c : aSz a j = 0 := l1.mp h
      refine ⟨by unfold res_lose; rw [if_neg k1, q4, if_pos c], ?_⟩
      unfold nxt_lose; rw [if_neg k1, q4]
      exact key σ (fun _ _ _ => rfl) (fun _ _ => rfl) rfl h (by rw [l3, c]; rfl)
