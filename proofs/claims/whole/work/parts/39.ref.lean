theorem rr_sh {a a' : AS} {σ0 σ : S_} (h : RR a σ0) {f : Nat} (hf : f ≤ 4) (hN : a'.1 = va_up a.1 7 f) (h2 : ∀ j, j < 16 → a'.2.1 j = a.2.1 j) (ht : aTr a' = aTr a) (h0 : rdI σ 0 = nI f) (hI : ∀ x, ¬ x = 0 → rdI σ x = rdI σ0 x) (hA : ∀ j, j < 24 → rdA σ j = rdA σ0 j) (hs : ∀ k, k < 4 → aSz a' k ≤ 61 ∧ aLane a' k < 3 ∧ rdA σ 24 k + 1 = nI (aSz a' k) ∧ (0 < aSz a' k → rdA σ 25 k = nI (aLane a' k)) ∧ ∀ i, i + 1 < aSz a' k → rdA σ 26 (60 * k + i) = aCell a' k i) : RR a' σ := by
  obtain ⟨w, e0, e1, e2, e3, e6, e7, e8, e9, e10, hp, ht', hm, hn, hr, hs0⟩ := h
  obtain ⟨w1, w2, w3, w4, w5, w6, w7, w8, w9, w10, w11, w12, w13, w14, w15, w16⟩ := w
  have n0 : nP a' = nP a := by unfold nP; rw [hN]; rfl
  have n1 : aPaid a' = aPaid a := by unfold aPaid; rw [hN]; rfl
  have n2 : aLaw a' = aLaw a := by unfold aLaw; rw [hN]; rfl
  have n3 : nT a' = nT a := by unfold nT; rw [hN]; rfl
  have n4 : nM a' = nM a := by unfold nM; rw [hN]; rfl
  have n5 : nN a' = nN a := by unfold nN; rw [hN]; rfl
  have n6 : nR a' = nR a := by unfold nR; rw [hN]; rfl
  have n7 : aFault a' = f := by unfold aFault; rw [hN]; rfl
  have f0 : aKind a' = aKind a := by funext x; unfold aKind; rw [h2 0 (by decide)]
  have f1 : aMinds a' = aMinds a := by funext x; unfold aMinds; rw [h2 1 (by decide)]
  have f2 : aHome a' = aHome a := by funext x; unfold aHome; rw [h2 2 (by decide)]
  have f3 : aDeed a' = aDeed a := by funext x; unfold aDeed; rw [h2 3 (by decide)]
  have f4 : aTo a' = aTo a := by funext x; unfold aTo; rw [h2 4 (by decide)]
  have f5 : aTin a' = aTin a := by funext x; unfold aTin; rw [h2 5 (by decide)]
  have f6 : aPar a' = aPar a := by funext x; unfold aPar; rw [h2 6 (by decide)]
  have f7 : aMof a' = aMof a := by funext x; unfold aMof; rw [h2 7 (by decide)]
  have f8 : aMto a' = aMto a := by funext x; unfold aMto; rw [h2 8 (by decide)]
  have f9 : aMin a' = aMin a := by funext x; unfold aMin; rw [h2 9 (by decide)]
  have f10 : aN1 a' = aN1 a := by funext x; unfold aN1; rw [h2 10 (by decide)]
  have f11 : aN2 a' = aN2 a := by funext x; unfold aN2; rw [h2 11 (by decide)]
  have f12 : aRof a' = aRof a := by funext x; unfold aRof; rw [h2 12 (by decide)]
  have f13 : aRt a' = aRt a := by funext x; unfold aRt; rw [h2 13 (by decide)]
  have f14 : aRin a' = aRin a := by funext x; unfold aRin; rw [h2 14 (by decide)]
  have f15 : aRdid a' = aRdid a := by funext x; unfold aRdid; rw [h2 15 (by decide)]
  refine ⟨⟨?_, ?_, ?_, ?_, ?_, ?_, ?_, ?_, ?_, ?_, ?_, ?_, ?_, ?_, fun k hk => ⟨(hs k hk).1, (hs k hk).2.1⟩, ?_⟩, h0.trans (by rw [n7]), (hI 1 (by decide)).trans (by rw [n0]; exact e1), (hI 2 (by decide)).trans (by rw [n1]; exact e2), (hI 3 (by decide)).trans (by rw [n2]; exact e3), (hI 6 (by decide)).trans (by rw [n3]; exact e6), (hI 7 (by decide)).trans (by rw [n4]; exact e7), (hI 8 (by decide)).trans (by rw [n5]; exact e8), (hI 9 (by decide)).trans (by rw [n6]; exact e9), (hI 10 (by decide)).trans (by rw [ht]; exact e10), ?_, ?_, ?_, ?_, ?_, fun k hk => (hs k hk).2.2⟩
  · rw [n0]; exact w1
  · rw [n0]; exact w2
  · rw [n0, n1]; exact w3
  · rw [n2]; exact w4
  · rw [n3]; exact w5
  · rw [n4]; exact w6
  · rw [n5]; exact w7
  · rw [n6]; exact w8
  · rw [n7]; exact hf
  · rw [n0, f0, f1, f2]; exact w10
  · rw [n3, n0, f3, f4, f5, f6]; exact w11
  · rw [n4, n0, f7, f8, f9]; exact w12
  · rw [n5, f10, f11]; exact w13
  · rw [n6, n0, n3, f12, f13, f14, f15]; exact w14
  · rw [n0, n3, n4, n5, n6, n2]; exact w16
  · rw [n0, f0, f1, f2, hA 1 (by decide), hA 2 (by decide), hA 3 (by decide)]; exact hp
  · rw [n3, f3, f4, f5, f6, hA 7 (by decide), hA 8 (by decide), hA 9 (by decide), hA 10 (by decide)]; exact ht'
  · rw [n4, f7, f8, f9, hA 11 (by decide), hA 12 (by decide), hA 13 (by decide)]; exact hm
  · rw [n5, f10, f11, hA 18 (by decide), hA 19 (by decide)]; exact hn
  · rw [n6, f12, f13, f14, f15, hA 20 (by decide), hA 21 (by decide), hA 22 (by decide), hA 23 (by decide)]; exact hr
theorem rr_flt {a : AS} {σ : S_} (h : RR a σ) {v : Nat} (hv : v ≤ 4) : RR (setN a 7 v) (wrI σ 0 (nI v)) := by
  obtain ⟨w, e0, e1, e2, e3, e6, e7, e8, e9, e10, hp', ht, hm', hn, hr, hs'⟩ := h
  obtain ⟨w1, w2, w3, w4, w5, w6, w7, w8, w9, w10, w11, w12, w13, w14, w15, w16⟩ := w
  exact ⟨⟨w1, w2, w3, w4, w5, w6, w7, w8, hv, w10, w11, w12, w13, w14, w15, w16⟩, rfl, e1, e2, e3, e6, e7, e8, e9, e10, hp', ht, hm', hn, hr, hs'⟩
theorem rr_sz {a : AS} {σ : S_} (h : RR a σ) {k : Nat} (hk : k < 4) : rdA σ 24 k = (if aSz a k = 0 then -1 else nI (aSz a k - 1)) := by
  have e := (rr_s h hk).1
  have e2 : rdA σ 24 k = nI (aSz a k) - 1 := by rw [← e]; exact (Int32.add_sub_cancel _ _).symm
  rw [e2]
  by_cases c : aSz a k = 0
  · rw [if_pos c, c]; decide
  · rw [if_neg c]; show nI (aSz a k) - nI 1 = _; rw [pk_sub (by omega)]
theorem add_T (x y : Int32) : (x.toInt64 + y.toInt64).toInt = x.toInt + y.toInt := by
  rw [Int64.toInt_add, i64_T, i64_T]
  have := i32_b x
  have := i32_b y
  exact Int.bmod_eq_of_le (by omega) (by omega)
theorem nI_T {n : Nat} (h : n < 2147483648) : (nI n).toInt = n := by
  have := lN_toInt (n := n) h
  rw [← nI_l h, i64_T] at this; exact this
theorem bey {i m : Int32} {L : Nat} (hL : L < 1000) : fn_X9_isBeyond i m.toInt64 (nI L) = 0 ↔ (0 ≤ i.toInt ∧ 0 ≤ m.toInt ∧ i.toInt + m.toInt ≤ (L : Int)) := by
  rw [b2i_0, Int32.lt_iff_toInt_lt, Int64.lt_iff_toInt_lt, Int64.lt_iff_toInt_lt, add_T, i64_T, i64_T, nI_T (by omega), show (0 : Int32).toInt = 0 from rfl, show (0 : Int64).toInt = 0 from rfl]
  omega
theorem sp_X9_noCell : Sp_X9_noCell := by
  intro k i a k1 σ hp
  obtain ⟨hR, rfl, hk⟩ := hp
  have hw := wf_s hR.1 hk
  refine ⟨z_in hk (by decide), ?_⟩
  rw [z_cl (by omega), rr_sz hR hk]
  by_cases c : aSz a k1 = 0
  · rw [if_pos c]
    refine ⟨fun h => absurd h (by decide), fun _ => ?_⟩
    show _ = _
    rw [if_pos c]
  · rw [if_neg c]
    refine ⟨fun _ => ⟨z_in hk (by decide), fun h => ?_, fun h => ?_⟩, fun h => absurd (by rw [show (0 : Int32) = nI 0 from rfl, z_le (by decide) (by omega)]; omega) h⟩
    · rw [b2i_0, in_y] at h
      show _ = _
      rw [if_neg c, if_neg h]
    · rw [b2i_0, in_y, Classical.not_not] at h
      show _ = _
      rw [if_neg c, if_pos h]
theorem sp_X9_cellsBarred : Sp_X9_cellsBarred := by
  intro k lane i n a k1 m σ hp
  obtain ⟨hR, rfl, hk, rfl⟩ := hp
  have hw := wf_s hR.1 hk
  have flt : ∀ v : Nat, ¬ v = 0 → barF a k1 lane i m = v → ∀ (r2 : Int32) (σ1 : S_), post_X9_failed (nI v) σ r2 σ1 → post_X9_cellsBarred (nI k1) lane i m.toInt64 a k1 m σ r2 σ1 := by
    rintro v hv e r2 σ1 ⟨h1, h2⟩
    unfold post_X9_cellsBarred
    rw [if_neg (by rw [e]; exact hv), e]; exact ⟨h1, h2⟩
  have no : barF a k1 lane i m = 0 → post_X9_cellsBarred (nI k1) lane i m.toInt64 a k1 m σ 0 σ := by
    intro e
    unfold post_X9_cellsBarred
    rw [if_pos e]; exact ⟨rfl, rfl⟩
  have hin : vp_in (nI k1) 4 := z_in hk (by decide)
  have hcl : Int32.toNatClampNeg (nI k1) = k1 := z_cl (by omega)
  have hge : (0 ≤ lg_cmp m.toInt64 0) ↔ ¬ m < 0 := by
    rw [cmp_ge0, Int64.le_iff_toInt_le, i64_T, Int32.lt_iff_toInt_lt, show (0 : Int32).toInt = 0 from rfl, show (0 : Int64).toInt = 0 from rfl]; omega
  refine ⟨hin, ?_⟩
  rw [hcl, rr_sz hR hk]
  by_cases c : aSz a k1 = 0
  · rw [if_pos c]
    refine ⟨fun _ => ⟨hin, fun h => absurd h (by decide), fun _ => flt 1 (by decide) ?_⟩, fun h => absurd (by decide) h⟩
    unfold barF; rw [if_neg (fun z => z.1 c), if_pos c]
  · have hl : rdA σ 25 k1 = nI (aLane a k1) := (rr_s hR hk).2.1 (by omega)
    rw [if_neg c, hl]
    have nneg : ¬ nI (aSz a k1 - 1) < (0 : Int32) := by rw [show (0 : Int32) = nI 0 from rfl, z_lt (by omega) (by decide)]; omega
    refine ⟨fun h => absurd h nneg, fun _ => ⟨hin, fun h => ⟨hin, fun h0 => ⟨fun h1 => ⟨hin, fun h2 => no ?_, fun h2 => flt 3 (by decide) ?_⟩, fun h1 => flt 4 (by decide) ?_⟩, fun h0 => absurd (by rw [show (0 : Int32) = nI 0 from rfl, z_le (by decide) (by omega)]; omega) h0⟩, fun h => flt 2 (by decide) ?_⟩⟩
    · rw [bey (by omega)] at h2
      rw [hge] at h1
      unfold barF; rw [if_neg (fun z => z.2 h), if_neg c, if_neg h1, if_pos]
      refine ⟨?_, h2.2.2⟩
      rw [Int32.le_iff_toInt_le]; exact h2.1
    · rw [bey (by omega)] at h2
      rw [hge] at h1
      unfold barF; rw [if_neg (fun z => z.2 h), if_neg c, if_neg h1, if_neg]
      intro z
      refine h2 ⟨?_, ?_, z.2⟩
      · have := z.1; rw [Int32.le_iff_toInt_le] at this; exact this
      · rw [Int32.lt_iff_toInt_lt, show (0 : Int32).toInt = 0 from rfl] at h1; omega
    · rw [hge, Classical.not_not] at h1
      unfold barF; rw [if_neg (fun z => z.2 h), if_neg c, if_pos h1]
    · unfold barF; rw [if_pos ⟨c, h⟩]
theorem rr_tr' {a : AS} {σ σ' : S_} {b : Int32} (h : RR a σ) (h' : post_X9_traced b σ σ') : RR (setTr a (trA (aTr a) b)) σ' := by
  rw [show σ' = _ from h']
  obtain ⟨w, e0, e1, e2, e3, e6, e7, e8, e9, e10, hp', ht, hm', hn, hr, hs'⟩ := h
  exact ⟨w, e0, e1, e2, e3, e6, e7, e8, e9, by rw [rI_same, e10]; rfl, hp', ht, hm', hn, hr, hs'⟩
theorem sp_X9_trace : Sp_X9_trace := fun a σ hp => ⟨rr_tr (show RR a σ from hp), hp⟩
theorem sp_X9_fault : Sp_X9_fault := fun a σ hp => ⟨rr_F (show RR a σ from hp), hp⟩
theorem sp_X9_many : Sp_X9_many := by
  intro w a σ hp
  have hR : RR a σ := hp
  have hk : ∀ x : Int32, x = res_many w a → post_X9_many w a σ x σ := fun x hx => ⟨hx, hR⟩
  refine ⟨fun h0 => hk _ ?_, fun h0 => ⟨fun h1 => hk _ ?_, fun h1 => ⟨fun h2 => hk _ ?_, fun h2 => ⟨fun h3 => hk _ ?_, fun h3 => ⟨fun h4 => hk _ ?_, fun h4 => ⟨fun h5 => hk _ ?_, fun h5 => hk _ ?_⟩⟩⟩⟩⟩⟩
  · unfold res_many; rw [if_pos h0]; exact rr_P hR
  · unfold res_many; rw [if_neg h0, if_pos h1]; exact rr_T hR
  · unfold res_many; rw [if_neg h0, if_neg h1, if_pos h2]; exact rr_M hR
  · unfold res_many; rw [if_neg h0, if_neg h1, if_neg h2, if_pos h3]; exact rr_N hR
  · unfold res_many; rw [if_neg h0, if_neg h1, if_neg h2, if_neg h3, if_pos h4]; exact rr_R hR
  · unfold res_many; rw [if_neg h0, if_neg h1, if_neg h2, if_neg h3, if_neg h4, if_pos h5]; exact rr_law hR
  · unfold res_many; rw [if_neg h0, if_neg h1, if_neg h2, if_neg h3, if_neg h4, if_neg h5]
theorem sp_X9_as : Sp_X9_as := by
  intro p kind a σ hp
  have hR : RR a σ := hp
  have hl := rr_le hR
  have flt : ∀ v : Nat, v ≤ 4 → RR (setN a 7 v) (wrI σ 0 (nI v)) := fun v hv => rr_flt hR hv
  refine ⟨fun h => ⟨fun h2 => ?_, fun h2 => ?_⟩, fun h => ?_⟩
  · rw [noP hR] at h; rw [in3, Classical.not_not] at h2
    have g : ¬ ¬ inR p (nP a) := fun z => z h
    have g2 : ¬ ¬ inR kind 3 := fun z => z h2
    obtain ⟨q, hq, rfl⟩ := (inR_iff (n := nP a) (by omega)).mp h
    have ht : toN (nI q) = q := z_cl (by omega)
    have ht' : Int32.toNatClampNeg (nI q) = q := ht
    refine ⟨z_in (by omega) (by decide), ?_⟩
    rw [ht', (rr_p hR hq).1]
    refine ⟨fun c => ?_, fun c => ?_⟩
    · rintro r2 σ1 ⟨q1, q2⟩
      exact ⟨by unfold res_as; rw [if_neg g, if_neg g2, ht, if_pos c]; exact q1, by unfold nxt_as; rw [if_neg g, if_neg g2, ht, if_pos c, q2]; exact flt 2 (by decide)⟩
    · rintro r2 σ1 ⟨q1, q2⟩
      exact ⟨by unfold res_as; rw [if_neg g, if_neg g2, ht, if_neg c]; exact q1, by unfold nxt_as; rw [if_neg g, if_neg g2, ht, if_neg c, q2]; exact flt 0 (by decide)⟩
  · rw [noP hR] at h; rw [in3] at h2
    have g : ¬ ¬ inR p (nP a) := fun z => z h
    rintro r2 σ1 ⟨q1, q2⟩
    exact ⟨by unfold res_as; rw [if_neg g, if_pos h2]; exact q1, by unfold nxt_as; rw [if_neg g, if_pos h2, q2]; exact flt 0 (by decide)⟩
  · rw [noP hR] at h
    rintro r2 σ1 ⟨q1, q2⟩
    exact ⟨by unfold res_as; rw [if_pos h]; exact q1, by unfold nxt_as; rw [if_pos h, q2]; exact flt 0 (by decide)⟩
theorem sp_X9_greet : Sp_X9_greet := by
  intro p a σ hp
  have hR : RR a σ := hp
  have hl := rr_le hR
  refine ⟨fun h => ?_, fun h => ?_⟩
  · rw [noP hR] at h
    have g : ¬ ¬ inR p (nP a) := fun z => z h
    obtain ⟨q, hq, rfl⟩ := (inR_iff (n := nP a) (by omega)).mp h
    have ht : toN (nI q) = q := z_cl (by omega)
    have ht' : Int32.toNatClampNeg (nI q) = q := ht
    have hw := wf_p hR.1 hq
    have hin : vp_in (nI q) 6 := z_in (by omega) (by decide)
    refine ⟨hin, ?_⟩
    rw [ht', (rr_p hR hq).1, show (2 : Int32) = nI 2 from rfl, z_eq (by omega) (by decide)]
    refine ⟨fun b => b = if aKind a q = 2 then 5 else 4, ⟨fun c => (if_neg c).symm, fun c => (if_pos c).symm⟩, fun b3 hb3 σ5 h5 => ⟨hin, ?_⟩⟩
    have hr := rr_tr' hR h5
    rw [(rr_p hr hq).1]
    have ek : aKind (setTr a (trA (aTr a) b3)) q = aKind a q := rfl
    rw [ek, z_eq (by omega) (by decide)]
    have en : nxt_greet (nI q) a = setTr a (trA (aTr a) b3) := by unfold nxt_greet; rw [if_neg g, ht, show b3 = _ from hb3]
    refine ⟨fun c => ⟨?_, ?_⟩, fun c => ⟨?_, ?_⟩⟩
    · unfold res_greet; rw [if_neg g, ht, if_neg c]
    · rw [en]; exact hr
    · unfold res_greet; rw [if_neg g, ht, if_pos c]
    · rw [en]; exact hr
  · rw [noP hR] at h
    exact ⟨by unfold res_greet; rw [if_pos h], by unfold nxt_greet; rw [if_pos h]; exact hR⟩
