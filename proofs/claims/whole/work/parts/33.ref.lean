theorem noP {a : AS} {σ : S_} (h : RR a σ) (p : Int32) : fn_X9_noPerson p σ = 0 ↔ inR p (nP a) := by
  rw [b2i_0, Classical.not_not, rr_P h]
theorem noT {a : AS} {σ : S_} (h : RR a σ) (p : Int32) : fn_X9_noTale p σ = 0 ↔ inR p (nT a) := by
  rw [b2i_0, Classical.not_not, rr_T h]
theorem noD (d : Int32) : fn_X9_noDeed d = 0 ↔ inR d 6 := by rw [b2i_0, Classical.not_not]; exact Iff.rfl
theorem noHe (d : Int32) : fn_X9_noHearth d = 0 ↔ inR d 3 := by rw [b2i_0, Classical.not_not]; exact Iff.rfl
theorem noSh (d : Int32) : fn_X9_noSheet d = 0 ↔ inR d 4 := by rw [b2i_0, Classical.not_not]; exact Iff.rfl
theorem isSe (d : Int32) : fn_X9_isSeason d = 0 ↔ ¬ inR d 40 := by rw [b2i_0]; exact Iff.rfl
theorem in_le (p y : Int32) : (0 ≤ p.toInt64 ∧ p.toInt64 ≤ y.toInt64) ↔ (0 ≤ p ∧ p ≤ y) := by
  rw [Int64.le_iff_toInt_le, Int64.le_iff_toInt_le, i64_T, i64_T, Int32.le_iff_toInt_le, Int32.le_iff_toInt_le]; exact Iff.rfl
theorem z0 {n : Nat} (h : n < 2147483648) : (nI n = (0 : Int32)) = (n = 0) := by rw [show (0 : Int32) = nI 0 from rfl, z_eq h (by decide)]
theorem sp_X9_ofPerson : Sp_X9_ofPerson := by
  intro p what a σ hp
  have hR : RR a σ := hp
  have hl := rr_le hR
  refine ⟨fun h => ?_, fun h => ?_⟩
  · rw [noP hR] at h
    obtain ⟨q, hq, rfl⟩ := (inR_iff (n := nP a) (by omega)).mp h
    have hq64 : Int32.toNatClampNeg (nI q) = q := z_cl (by omega)
    obtain ⟨k1, k2, k3⟩ := rr_p hR hq
    rw [hq64, k1, k2, k3]
    have hk : ∀ x : Int32, x = res_ofPerson (nI q) what a → post_X9_ofPerson (nI q) what a σ x σ := fun x hx => ⟨hx, hR⟩
    have g : ¬ ¬ inR (nI q) (nP a) := fun z => z h
    refine ⟨fun h0 => ⟨z_in (by omega) (by decide), hk _ ?_⟩, fun h0 => ⟨fun h1 => ⟨z_in (by omega) (by decide), hk _ ?_⟩, fun h1 => ⟨fun h2 => ⟨z_in (by omega) (by decide), hk _ ?_⟩, fun h2 => ⟨fun h3 => ⟨a, q, ⟨hR, rfl, hq⟩, ?_⟩, fun h3 => ⟨fun h4 => ⟨fun h5 => hk _ ?_, fun h5 => hk _ ?_⟩, fun h4 => hk _ ?_⟩⟩⟩⟩⟩
    · unfold res_ofPerson; rw [if_neg g, if_pos h0]; unfold toN; rw [hq64]
    · unfold res_ofPerson; rw [if_neg g, if_neg h0, if_pos h1]; unfold toN; rw [hq64]
    · unfold res_ofPerson; rw [if_neg g, if_neg h0, if_neg h1, if_pos h2]; unfold toN; rw [hq64]
    · rintro r7 rfl
      refine hk _ ?_
      unfold res_ofPerson; rw [if_neg g, if_neg h0, if_neg h1, if_neg h2, if_pos h3]; unfold toN; rw [hq64]
    · rw [rr_paid hR, isIn_R (paid64 hR.1) (by omega), b2i_0] at h5
      unfold res_ofPerson; rw [if_neg g, if_neg h0, if_neg h1, if_neg h2, if_neg h3, if_pos h4]; unfold toN; rw [hq64, b2i_f h5]
    · rw [rr_paid hR, isIn_R (paid64 hR.1) (by omega), b2i_0, Classical.not_not] at h5
      unfold res_ofPerson; rw [if_neg g, if_neg h0, if_neg h1, if_neg h2, if_neg h3, if_pos h4]; unfold toN; rw [hq64, b2i_t h5]
    · unfold res_ofPerson; rw [if_neg g, if_neg h0, if_neg h1, if_neg h2, if_neg h3, if_neg h4]
  · rw [noP hR] at h
    exact ⟨(if_pos h).symm, hR⟩
theorem wf_addT {a : AS} (h : WF a) {d p s : Nat} (hd : d < 6) (hp : p < nP a) (hs : s < 40) (hT : nT a < 6) : WF (addT a d p s) := by
  obtain ⟨w1, w2, w3, w4, w5, w6, w7, w8, w9, w10, w11, w12, w13, w14, w15, w16⟩ := h
  have ad : ∀ t, aDeed (addT a d p s) t = (if t = nT a then d else aDeed a t) := fun _ => rfl
  have at' : ∀ t, aTo (addT a d p s) t = (if t = nT a then p else aTo a t) := fun _ => rfl
  have as' : ∀ t, aTin (addT a d p s) t = (if t = nT a then s else aTin a t) := fun _ => rfl
  have ap : ∀ t, aPar (addT a d p s) t = (if t = nT a then 0 else aPar a t) := fun _ => rfl
  have aT : nT (addT a d p s) = nT a + 1 := rfl
  refine ⟨w1, w2, w3, w4, by rw [aT]; omega, w6, w7, w8, w9, w10, fun t htt => ?_, w12, w13, fun k hk => ?_, w15, fun h0 => ?_⟩
  · rw [aT] at htt
    rw [ad, at', as', ap]
    by_cases e : t = nT a
    · rw [if_pos e, if_pos e, if_pos e, if_pos e]; exact ⟨hd, hp, hs, Nat.zero_le 1⟩
    · rw [if_neg e, if_neg e, if_neg e, if_neg e]; exact w11 t (by omega)
  · obtain ⟨q1, q2, q3⟩ := w14 k hk
    exact ⟨q1, Nat.lt_succ_of_lt q2, q3⟩
  · exact absurd (show nP a = 0 from h0) (by omega)
theorem up_row {f g : Nat → Int32} {v w : Nat → Nat} {n x : Nat} {c : Nat} (hf : ∀ k, f k = if k = n then nI c else g k) (hv : ∀ k, v k = if k = n then c else w k) (h : ∀ k, k < n → g k = nI (w k)) : x < n + 1 → f x = nI (v x) := by
  intro hx
  rw [hf, hv]
  by_cases e : x = n
  · rw [if_pos e, if_pos e]
  · rw [if_neg e, if_neg e]; exact h x (by omega)
theorem rr_addT {a : AS} {σ : S_} (h : RR a σ) {d p s : Nat} (hd : d < 6) (hp : p < nP a) (hs : s < 40) (hT : nT a < 6) : RR (addT a d p s) (wrI (wr2 (wr2 (wr2 (wr2 σ 7 (nT a) (nI d)) 8 (nT a) (nI p)) 9 (nT a) (nI s)) 10 (nT a) 0) 6 (nI (nT a + 1))) := by
  obtain ⟨w, e0, e1, e2, e3, e6, e7, e8, e9, e10, hp', ht, hm, hn, hr, hs'⟩ := h
  refine ⟨wf_addT w hd hp hs hT, e0, e1, e2, e3, rfl, e7, e8, e9, e10, hp', fun t htt => ⟨?_, ?_, ?_, ?_⟩, hm, hn, hr, hs'⟩
  · exact up_row (w := aDeed a) (g := rdA σ 7) (fun k => by rw [rA_wI, rA_w2n _ _ _ _ _ (by decide), rA_w2n _ _ _ _ _ (by decide), rA_w2n _ _ _ _ _ (by decide), rA_w2s]) (fun _ => rfl) (fun k hk => (ht k hk).1) htt
  · exact up_row (w := aTo a) (g := rdA σ 8) (fun k => by rw [rA_wI, rA_w2n _ _ _ _ _ (by decide), rA_w2n _ _ _ _ _ (by decide), rA_w2s, rA_w2n _ _ _ _ _ (by decide)]) (fun _ => rfl) (fun k hk => (ht k hk).2.1) htt
  · exact up_row (w := aTin a) (g := rdA σ 9) (fun k => by rw [rA_wI, rA_w2n _ _ _ _ _ (by decide), rA_w2s, rA_w2n _ _ _ _ _ (by decide), rA_w2n _ _ _ _ _ (by decide)]) (fun _ => rfl) (fun k hk => (ht k hk).2.2.1) htt
  · exact up_row (w := aPar a) (g := rdA σ 10) (c := 0) (fun k => by rw [rA_wI, rA_w2s, rA_w2n _ _ _ _ _ (by decide), rA_w2n _ _ _ _ _ (by decide), rA_w2n _ _ _ _ _ (by decide)]; rfl) (fun _ => rfl) (fun k hk => (ht k hk).2.2.2) htt
theorem nar01 : vp_nar .boolean 0 = 0 ∧ vp_nar .boolean 1 = 1 := by decide
theorem sp_X9_tale : Sp_X9_tale := by
  intro d p s a σ hp
  have hR : RR a σ := hp
  have hl := rr_le hR
  refine ⟨fun h => ?_, fun h => ⟨fun h2 => ⟨fun h3 => ⟨fun h4 => ⟨?_, ?_⟩, fun h4 => ?_⟩, fun h3 => ?_⟩, fun h2 => ?_⟩⟩
  · rw [noD] at h
    have g : ¬ (inR d 6 ∧ inR p (nP a)) := fun z => h z.1
    exact ⟨by unfold res_tale; rw [if_pos g], by unfold nxt_tale; rw [if_pos g]; exact hR⟩
  · rw [rr_T hR] at h4 ⊢
    rw [show (6 : Int32) = nI 6 from rfl, z_eq (by omega) (by decide)] at h4
    exact z_in (by omega) (by decide)
  · rw [noD] at h; rw [noP hR] at h2; rw [isSe, Classical.not_not] at h3
    rw [rr_T hR, show (6 : Int32) = nI 6 from rfl, z_eq (by omega) (by decide)] at h4
    have g : ¬ ¬ (inR d 6 ∧ inR p (nP a)) := fun z => z ⟨h, h2⟩
    have g2 : ¬ ¬ inR s 40 := fun z => z h3
    have eT : res_tale d p s a = nI (nT a) := by unfold res_tale; rw [if_neg g, if_neg g2, if_neg h4]
    have eN : nxt_tale d p s a = addT a (toN d) (toN p) (toN s) := by unfold nxt_tale; rw [if_neg g, if_neg g2, if_neg h4]
    obtain ⟨d1, hd, rfl⟩ := (inR_iff (n := 6) (by decide)).mp h
    obtain ⟨p1, hp1, rfl⟩ := (inR_iff (n := nP a) (by omega)).mp h2
    obtain ⟨s1, hs, rfl⟩ := (inR_iff (n := 40) (by decide)).mp h3
    unfold toN at eN
    rw [z_cl (by omega), z_cl (by omega), z_cl (by omega)] at eN
    have hi : vp_in (nI (nT a)) 6 := z_in (by omega) (by decide)
    have hc : Int32.toNatClampNeg (nI (nT a)) = nT a := z_cl (by omega)
    rintro σ1 rfl
    have t1 : rdI (wr2 σ 7 (Int32.toNatClampNeg (rdI σ 6)) (nI d1)) 6 = nI (nT a) := by rw [rI_w2]; exact rr_T hR
    rw [t1, hc]
    refine ⟨hi, ?_⟩
    rintro σ3 rfl
    rw [rI_w2, t1]
    refine ⟨hi, ?_⟩
    rintro σ5 rfl
    rw [rI_w2, rI_w2, t1]
    refine ⟨hi, ?_⟩
    rintro σ7 rfl
    rintro σ9 rfl
    rw [rI_same, rI_w2, rI_w2, rI_w2, t1, nar01.1, hc, rr_T hR, hc, nI_1]
    refine ⟨?_, ?_⟩
    · rw [eT]; show nI (nT a + 1) - nI 1 = _; rw [pk_sub (by omega), Nat.add_sub_cancel]
    · rw [eN]; exact rr_addT hR hd hp1 hs (by omega)
  · rw [noD] at h; rw [noP hR] at h2; rw [isSe, Classical.not_not] at h3
    rw [rr_T hR, show (6 : Int32) = nI 6 from rfl, z_eq (by omega) (by decide)] at h4
    have g : ¬ ¬ (inR d 6 ∧ inR p (nP a)) := fun z => z ⟨h, h2⟩
    have g2 : ¬ ¬ inR s 40 := fun z => z h3
    exact ⟨by unfold res_tale; rw [if_neg g, if_neg g2, if_pos h4], by unfold nxt_tale; rw [if_neg g, if_neg g2, if_pos h4]; exact hR⟩
  · rw [noD] at h; rw [noP hR] at h2; rw [isSe] at h3
    have g : ¬ ¬ (inR d 6 ∧ inR p (nP a)) := fun z => z ⟨h, h2⟩
    exact ⟨by unfold res_tale; rw [if_neg g, if_pos h3], by unfold nxt_tale; rw [if_neg g, if_pos h3]; exact hR⟩
  · rw [noP hR] at h2
    have g : ¬ (inR d 6 ∧ inR p (nP a)) := fun z => h2 z.2
    exact ⟨by unfold res_tale; rw [if_pos g], by unfold nxt_tale; rw [if_pos g]; exact hR⟩
