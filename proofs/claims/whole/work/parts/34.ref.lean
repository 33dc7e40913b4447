theorem wf_addM {a : AS} (h : WF a) {p hh s : Nat} (hp : p < nP a) (hh3 : hh < 3) (hs : s < 40) (hT : nM a < 8) : WF (setN (set2 (set2 (set2 a 7 (nM a) p) 8 (nM a) hh) 9 (nM a) s) 4 (nM a + 1)) := by
  obtain ⟨w1, w2, w3, w4, w5, w6, w7, w8, w9, w10, w11, w12, w13, w14, w15, w16⟩ := h
  refine ⟨w1, w2, w3, w4, w5, by show nM a + 1 ≤ 8; omega, w7, w8, w9, w10, w11, fun k hk => ?_, w13, w14, w15, fun h0 => absurd (show nP a = 0 from h0) (by omega)⟩
  have hk' : k < nM a + 1 := hk
  show (if k = nM a then p else aMof a k) < nP a ∧ (if k = nM a then hh else aMto a k) < 3 ∧ (if k = nM a then s else aMin a k) < 40
  by_cases e : k = nM a
  · rw [if_pos e, if_pos e, if_pos e]; exact ⟨hp, hh3, hs⟩
  · rw [if_neg e, if_neg e, if_neg e]; exact w12 k (by omega)
theorem rr_addM {a : AS} {σ : S_} (h : RR a σ) {p hh s : Nat} (hp : p < nP a) (hh3 : hh < 3) (hs : s < 40) (hT : nM a < 8) : RR (setN (set2 (set2 (set2 a 7 (nM a) p) 8 (nM a) hh) 9 (nM a) s) 4 (nM a + 1)) (wrI (wr2 (wr2 (wr2 σ 11 (nM a) (nI p)) 12 (nM a) (nI hh)) 13 (nM a) (nI s)) 7 (nI (nM a + 1))) := by
  obtain ⟨w, e0, e1, e2, e3, e6, e7, e8, e9, e10, hp', ht, hm, hn, hr, hs'⟩ := h
  refine ⟨wf_addM w hp hh3 hs hT, e0, e1, e2, e3, e6, rfl, e8, e9, e10, hp', ht, fun t htt => ⟨?_, ?_, ?_⟩, hn, hr, hs'⟩
  · exact up_row (w := aMof a) (g := rdA σ 11) (fun k => by rw [rA_wI, rA_w2n _ _ _ _ _ (by decide), rA_w2n _ _ _ _ _ (by decide), rA_w2s]) (fun _ => rfl) (fun k hk => (hm k hk).1) htt
  · exact up_row (w := aMto a) (g := rdA σ 12) (fun k => by rw [rA_wI, rA_w2n _ _ _ _ _ (by decide), rA_w2s, rA_w2n _ _ _ _ _ (by decide)]) (fun _ => rfl) (fun k hk => (hm k hk).2.1) htt
  · exact up_row (w := aMin a) (g := rdA σ 13) (fun k => by rw [rA_wI, rA_w2s, rA_w2n _ _ _ _ _ (by decide), rA_w2n _ _ _ _ _ (by decide)]) (fun _ => rfl) (fun k hk => (hm k hk).2.2) htt
theorem sp_X9_move : Sp_X9_move := by
  intro p hh s a σ hp
  have hR : RR a σ := hp
  have hl := rr_le hR
  refine ⟨fun h => ?_, fun h => ⟨fun h2 => ⟨fun h3 => ⟨fun h4 => ⟨?_, ?_⟩, fun h4 => ?_⟩, fun h3 => ?_⟩, fun h2 => ?_⟩⟩
  · rw [noP hR] at h
    have g : ¬ (inR p (nP a) ∧ inR hh 3) := fun z => h z.1
    exact ⟨by unfold res_move; rw [if_pos g], by unfold nxt_move; rw [if_pos g]; exact hR⟩
  · rw [rr_M hR] at h4 ⊢
    rw [show (8 : Int32) = nI 8 from rfl, z_eq (by omega) (by decide)] at h4
    exact z_in (by omega) (by decide)
  · rw [noHe] at h2; rw [noP hR] at h; rw [isSe, Classical.not_not] at h3
    rw [rr_M hR, show (8 : Int32) = nI 8 from rfl, z_eq (by omega) (by decide)] at h4
    have g : ¬ ¬ (inR p (nP a) ∧ inR hh 3) := fun z => z ⟨h, h2⟩
    have g2 : ¬ ¬ inR s 40 := fun z => z h3
    have eT : res_move p hh s a = nI (nM a) := by unfold res_move; rw [if_neg g, if_neg g2, if_neg h4]
    have eN : nxt_move p hh s a = setN (set2 (set2 (set2 a 7 (nM a) (toN p)) 8 (nM a) (toN hh)) 9 (nM a) (toN s)) 4 (nM a + 1) := by unfold nxt_move; rw [if_neg g, if_neg g2, if_neg h4]
    obtain ⟨p1, hp1, rfl⟩ := (inR_iff (n := nP a) (by omega)).mp h
    obtain ⟨d1, hd, rfl⟩ := (inR_iff (n := 3) (by decide)).mp h2
    obtain ⟨s1, hs, rfl⟩ := (inR_iff (n := 40) (by decide)).mp h3
    unfold toN at eN
    rw [z_cl (by omega), z_cl (by omega), z_cl (by omega)] at eN
    have hi : vp_in (nI (nM a)) 8 := z_in (by omega) (by decide)
    have hc : Int32.toNatClampNeg (nI (nM a)) = nM a := z_cl (by omega)
    have t0 : rdI σ 7 = nI (nM a) := rr_M hR
    rintro σ1 rfl
    rw [rI_w2, t0, hc]
    refine ⟨hi, ?_⟩
    rintro σ3 rfl
    rw [rI_w2, rI_w2, t0, hc]
    refine ⟨hi, ?_⟩
    rintro σ5 rfl
    rintro σ7 rfl
    rw [rI_same, rI_w2, rI_w2, rI_w2, t0, nI_1]
    refine ⟨?_, ?_⟩
    · rw [eT]; show nI (nM a + 1) - nI 1 = _; rw [pk_sub (by omega), Nat.add_sub_cancel]
    · rw [eN]; exact rr_addM hR hp1 hd hs (by omega)
  · rw [noHe] at h2; rw [noP hR] at h; rw [isSe, Classical.not_not] at h3
    rw [rr_M hR, show (8 : Int32) = nI 8 from rfl, z_eq (by omega) (by decide)] at h4
    have g : ¬ ¬ (inR p (nP a) ∧ inR hh 3) := fun z => z ⟨h, h2⟩
    have g2 : ¬ ¬ inR s 40 := fun z => z h3
    exact ⟨by unfold res_move; rw [if_neg g, if_neg g2, if_pos h4], by unfold nxt_move; rw [if_neg g, if_neg g2, if_pos h4]; exact hR⟩
  · rw [noHe] at h2; rw [noP hR] at h; rw [isSe] at h3
    have g : ¬ ¬ (inR p (nP a) ∧ inR hh 3) := fun z => z ⟨h, h2⟩
    exact ⟨by unfold res_move; rw [if_neg g, if_pos h3], by unfold nxt_move; rw [if_neg g, if_pos h3]; exact hR⟩
  · rw [noHe] at h2
    have g : ¬ (inR p (nP a) ∧ inR hh 3) := fun z => h2 z.2
    exact ⟨by unfold res_move; rw [if_pos g], by unfold nxt_move; rw [if_pos g]; exact hR⟩
theorem wf_addN {a : AS} (h : WF a) {d o : Nat} (hd : d < 6) (ho : o < 6) (hT : nN a < 6) (h0 : ¬ nP a = 0) : WF (setN (set2 (set2 a 10 (nN a) d) 11 (nN a) o) 5 (nN a + 1)) := by
  obtain ⟨w1, w2, w3, w4, w5, w6, w7, w8, w9, w10, w11, w12, w13, w14, w15, w16⟩ := h
  refine ⟨w1, w2, w3, w4, w5, w6, by show nN a + 1 ≤ 6; omega, w8, w9, w10, w11, w12, fun k hk => ?_, w14, w15, fun z => absurd z h0⟩
  have hk' : k < nN a + 1 := hk
  show (if k = nN a then d else aN1 a k) < 6 ∧ (if k = nN a then o else aN2 a k) < 6
  by_cases e : k = nN a
  · rw [if_pos e, if_pos e]; exact ⟨hd, ho⟩
  · rw [if_neg e, if_neg e]; exact w13 k (by omega)
theorem rr_addN {a : AS} {σ : S_} (h : RR a σ) {d o : Nat} (hd : d < 6) (ho : o < 6) (hT : nN a < 6) (h0 : ¬ nP a = 0) : RR (setN (set2 (set2 a 10 (nN a) d) 11 (nN a) o) 5 (nN a + 1)) (wrI (wr2 (wr2 σ 18 (nN a) (nI d)) 19 (nN a) (nI o)) 8 (nI (nN a + 1))) := by
  obtain ⟨w, e0, e1, e2, e3, e6, e7, e8, e9, e10, hp', ht, hm, hn, hr, hs'⟩ := h
  refine ⟨wf_addN w hd ho hT h0, e0, e1, e2, e3, e6, e7, rfl, e9, e10, hp', ht, hm, fun t htt => ⟨?_, ?_⟩, hr, hs'⟩
  · exact up_row (w := aN1 a) (g := rdA σ 18) (fun k => by rw [rA_wI, rA_w2n _ _ _ _ _ (by decide), rA_w2s]) (fun _ => rfl) (fun k hk => (hn k hk).1) htt
  · exact up_row (w := aN2 a) (g := rdA σ 19) (fun k => by rw [rA_wI, rA_w2s, rA_w2n _ _ _ _ _ (by decide)]) (fun _ => rfl) (fun k hk => (hn k hk).2) htt
theorem sp_X9_need : Sp_X9_need := by
  intro d o a σ hp
  have hR : RR a σ := hp
  have hl := rr_le hR
  refine ⟨fun h => ?_, fun h => ⟨fun h2 => ⟨fun h3 => ⟨fun h4 => ⟨?_, ?_⟩, fun h4 => ?_⟩, fun h3 => ?_⟩, fun h2 => ?_⟩⟩
  · rw [noD] at h
    have g : ¬ (inR d 6 ∧ inR o 6) := fun z => h z.1
    exact ⟨by unfold res_need; rw [if_pos g], by unfold nxt_need; rw [if_pos g]; exact hR⟩
  · rw [rr_N hR] at h4 ⊢
    rw [show (6 : Int32) = nI 6 from rfl, z_eq (by omega) (by decide)] at h4
    exact z_in (by omega) (by decide)
  · rw [noD] at h h2; rw [rr_P hR, z0 (by omega)] at h3
    rw [rr_N hR, show (6 : Int32) = nI 6 from rfl, z_eq (by omega) (by decide)] at h4
    have g : ¬ ¬ (inR d 6 ∧ inR o 6) := fun z => z ⟨h, h2⟩
    have eT : res_need d o a = nI (nN a) := by unfold res_need; rw [if_neg g, if_neg h3, if_neg h4]
    have eN : nxt_need d o a = setN (set2 (set2 a 10 (nN a) (toN d)) 11 (nN a) (toN o)) 5 (nN a + 1) := by unfold nxt_need; rw [if_neg g, if_neg h3, if_neg h4]
    obtain ⟨p1, hp1, rfl⟩ := (inR_iff (n := 6) (by omega)).mp h
    obtain ⟨d1, hd, rfl⟩ := (inR_iff (n := 6) (by decide)).mp h2
    unfold toN at eN
    rw [z_cl (by omega), z_cl (by omega)] at eN
    have hi : vp_in (nI (nN a)) 6 := z_in (by omega) (by decide)
    have hc : Int32.toNatClampNeg (nI (nN a)) = nN a := z_cl (by omega)
    have t0 : rdI σ 8 = nI (nN a) := rr_N hR
    rintro σ1 rfl
    rw [rI_w2, t0, hc]
    refine ⟨hi, ?_⟩
    rintro σ3 rfl
    rintro σ7 rfl
    rw [rI_same, rI_w2, rI_w2, t0, nI_1]
    refine ⟨?_, ?_⟩
    · rw [eT]; show nI (nN a + 1) - nI 1 = _; rw [pk_sub (by omega), Nat.add_sub_cancel]
    · rw [eN]; exact rr_addN hR hp1 hd (by omega) h3
  · rw [noD] at h h2; rw [rr_P hR, z0 (by omega)] at h3
    rw [rr_N hR, show (6 : Int32) = nI 6 from rfl, z_eq (by omega) (by decide)] at h4
    have g : ¬ ¬ (inR d 6 ∧ inR o 6) := fun z => z ⟨h, h2⟩
    exact ⟨by unfold res_need; rw [if_neg g, if_neg h3, if_pos h4], by unfold nxt_need; rw [if_neg g, if_neg h3, if_pos h4]; exact hR⟩
  · rw [noD] at h h2; rw [rr_P hR, z0 (by omega)] at h3
    have g : ¬ ¬ (inR d 6 ∧ inR o 6) := fun z => z ⟨h, h2⟩
    exact ⟨by unfold res_need; rw [if_neg g, if_pos h3], by unfold nxt_need; rw [if_neg g, if_pos h3]; exact hR⟩
  · rw [noD] at h2
    have g : ¬ (inR d 6 ∧ inR o 6) := fun z => h2 z.2
    exact ⟨by unfold res_need; rw [if_pos g], by unfold nxt_need; rw [if_pos g]; exact hR⟩
theorem wf_addR {a : AS} (h : WF a) {p t s d : Nat} (hp : p < nP a) (htt : t < nT a) (hs : s < 40) (hd : d ≤ 1) (hT : nR a < 8) : WF (setN (set2 (set2 (set2 (set2 a 12 (nR a) p) 13 (nR a) t) 14 (nR a) s) 15 (nR a) d) 6 (nR a + 1)) := by
  obtain ⟨w1, w2, w3, w4, w5, w6, w7, w8, w9, w10, w11, w12, w13, w14, w15, w16⟩ := h
  refine ⟨w1, w2, w3, w4, w5, w6, w7, by show nR a + 1 ≤ 8; omega, w9, w10, w11, w12, w13, fun k hk => ?_, w15, fun z => absurd (show nP a = 0 from z) (by omega)⟩
  have hk' : k < nR a + 1 := hk
  show (if k = nR a then p else aRof a k) < nP a ∧ (if k = nR a then t else aRt a k) < nT a ∧ (if k = nR a then s else aRin a k) < 40 ∧ (if k = nR a then d else aRdid a k) ≤ 1
  by_cases e : k = nR a
  · rw [if_pos e, if_pos e, if_pos e, if_pos e]; exact ⟨hp, htt, hs, hd⟩
  · rw [if_neg e, if_neg e, if_neg e, if_neg e]; exact w14 k (by omega)
theorem rr_addR {a : AS} {σ : S_} (h : RR a σ) {p t s d : Nat} (hp : p < nP a) (htt : t < nT a) (hs : s < 40) (hd : d ≤ 1) (hT : nR a < 8) : RR (setN (set2 (set2 (set2 (set2 a 12 (nR a) p) 13 (nR a) t) 14 (nR a) s) 15 (nR a) d) 6 (nR a + 1)) (wrI (wr2 (wr2 (wr2 (wr2 σ 20 (nR a) (nI p)) 21 (nR a) (nI t)) 22 (nR a) (nI s)) 23 (nR a) (nI d)) 9 (nI (nR a + 1))) := by
  obtain ⟨w, e0, e1, e2, e3, e6, e7, e8, e9, e10, hp', ht, hm, hn, hr, hs'⟩ := h
  refine ⟨wf_addR w hp htt hs hd hT, e0, e1, e2, e3, e6, e7, e8, rfl, e10, hp', ht, hm, hn, fun k hk => ⟨?_, ?_, ?_, ?_⟩, hs'⟩
  · exact up_row (w := aRof a) (g := rdA σ 20) (fun k => by rw [rA_wI, rA_w2n _ _ _ _ _ (by decide), rA_w2n _ _ _ _ _ (by decide), rA_w2n _ _ _ _ _ (by decide), rA_w2s]) (fun _ => rfl) (fun k hk => (hr k hk).1) hk
  · exact up_row (w := aRt a) (g := rdA σ 21) (fun k => by rw [rA_wI, rA_w2n _ _ _ _ _ (by decide), rA_w2n _ _ _ _ _ (by decide), rA_w2s, rA_w2n _ _ _ _ _ (by decide)]) (fun _ => rfl) (fun k hk => (hr k hk).2.1) hk
  · exact up_row (w := aRin a) (g := rdA σ 22) (fun k => by rw [rA_wI, rA_w2n _ _ _ _ _ (by decide), rA_w2s, rA_w2n _ _ _ _ _ (by decide), rA_w2n _ _ _ _ _ (by decide)]) (fun _ => rfl) (fun k hk => (hr k hk).2.2.1) hk
  · exact up_row (w := aRdid a) (g := rdA σ 23) (fun k => by rw [rA_wI, rA_w2s, rA_w2n _ _ _ _ _ (by decide), rA_w2n _ _ _ _ _ (by decide), rA_w2n _ _ _ _ _ (by decide)]) (fun _ => rfl) (fun k hk => (hr k hk).2.2.2) hk
theorem sp_X9_reading : Sp_X9_reading := by
  intro p t s d a σ hp
  have hR : RR a σ := hp.1
  have hd01 : d = 0 ∨ d = 1 := hp.2
  have hl := rr_le hR
  refine ⟨fun h => ?_, fun h => ⟨fun h2 => ⟨fun h3 => ⟨fun h4 => ⟨?_, ?_⟩, fun h4 => ?_⟩, fun h3 => ?_⟩, fun h2 => ?_⟩⟩
  · rw [noP hR] at h
    have g : ¬ (inR p (nP a) ∧ inR t (nT a)) := fun z => h z.1
    exact ⟨by unfold res_reading; rw [if_pos g], by unfold nxt_reading; rw [if_pos g]; exact hR⟩
  · rw [rr_R hR] at h4 ⊢
    rw [show (8 : Int32) = nI 8 from rfl, z_eq (by omega) (by decide)] at h4
    exact z_in (by omega) (by decide)
  · rw [noT hR] at h2; rw [noP hR] at h; rw [isSe, Classical.not_not] at h3
    rw [rr_R hR, show (8 : Int32) = nI 8 from rfl, z_eq (by omega) (by decide)] at h4
    have g : ¬ ¬ (inR p (nP a) ∧ inR t (nT a)) := fun z => z ⟨h, h2⟩
    have g2 : ¬ ¬ inR s 40 := fun z => z h3
    have eT : res_reading p t s d a = nI (nR a) := by unfold res_reading; rw [if_neg g, if_neg g2, if_neg h4]
    have eN : nxt_reading p t s d a = setN (set2 (set2 (set2 (set2 a 12 (nR a) (toN p)) 13 (nR a) (toN t)) 14 (nR a) (toN s)) 15 (nR a) (toN d)) 6 (nR a + 1) := by unfold nxt_reading; rw [if_neg g, if_neg g2, if_neg h4]
    obtain ⟨d2, hd2, rfl⟩ : ∃ d2 : Nat, d2 ≤ 1 ∧ d = nI d2 := by
      rcases hd01 with q | q
      · exact ⟨0, by decide, q⟩
      · exact ⟨1, by decide, q⟩
    have en : vp_nar .boolean (nI d2) = nI d2 := by
      have : d2 = 0 ∨ d2 = 1 := by omega
      rcases this with q | q <;> rw [q] <;> decide
    obtain ⟨p1, hp1, rfl⟩ := (inR_iff (n := nP a) (by omega)).mp h
    obtain ⟨d1, hd, rfl⟩ := (inR_iff (n := nT a) (by omega)).mp h2
    obtain ⟨s1, hs, rfl⟩ := (inR_iff (n := 40) (by decide)).mp h3
    unfold toN at eN
    rw [z_cl (by omega), z_cl (by omega), z_cl (by omega), z_cl (by omega)] at eN
    have hi : vp_in (nI (nR a)) 8 := z_in (by omega) (by decide)
    have hc : Int32.toNatClampNeg (nI (nR a)) = nR a := z_cl (by omega)
    have t0 : rdI σ 9 = nI (nR a) := rr_R hR
    rintro σ1 rfl
    rw [rI_w2, t0, hc]
    refine ⟨hi, ?_⟩
    rintro σ3 rfl
    rw [rI_w2, rI_w2, t0, hc]
    refine ⟨hi, ?_⟩
    rintro σ5 rfl
    rw [rI_w2, rI_w2, rI_w2, t0, hc]
    refine ⟨hi, ?_⟩
    rintro σ7 rfl
    rintro σ9 rfl
    rw [rI_same, rI_w2, rI_w2, rI_w2, rI_w2, t0, nI_1, en]
    refine ⟨?_, ?_⟩
    · rw [eT]; show nI (nR a + 1) - nI 1 = _; rw [pk_sub (by omega), Nat.add_sub_cancel]
    · rw [eN]; exact rr_addR hR hp1 hd hs hd2 (by omega)
  · rw [noT hR] at h2; rw [noP hR] at h; rw [isSe, Classical.not_not] at h3
    rw [rr_R hR, show (8 : Int32) = nI 8 from rfl, z_eq (by omega) (by decide)] at h4
    have g : ¬ ¬ (inR p (nP a) ∧ inR t (nT a)) := fun z => z ⟨h, h2⟩
    have g2 : ¬ ¬ inR s 40 := fun z => z h3
    exact ⟨by unfold res_reading; rw [if_neg g, if_neg g2, if_pos h4], by unfold nxt_reading; rw [if_neg g, if_neg g2, if_pos h4]; exact hR⟩
  · rw [noT hR] at h2; rw [noP hR] at h; rw [isSe] at h3
    have g : ¬ ¬ (inR p (nP a) ∧ inR t (nT a)) := fun z => z ⟨h, h2⟩
    exact ⟨by unfold res_reading; rw [if_neg g, if_pos h3], by unfold nxt_reading; rw [if_neg g, if_pos h3]; exact hR⟩
  · rw [noT hR] at h2
    have g : ¬ (inR p (nP a) ∧ inR t (nT a)) := fun z => h2 z.2
    exact ⟨by unfold res_reading; rw [if_pos g], by unfold nxt_reading; rw [if_pos g]; exact hR⟩
