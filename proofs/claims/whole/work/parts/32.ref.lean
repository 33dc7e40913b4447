theorem isIn_R {m k : Nat} (hm : m < 64) (hk : k < 8) : fn_X9_isIn (nI m) (nI k) = b2i (m.testBit k = true) := by
  apply b2i_c; rw [bit_s m hm k hk]
theorem sp_X9_tellAt : Sp_X9_tellAt := by
  intro h season a r S h1 σ0 hp
  obtain ⟨hR, hrun, rfl, ⟨rfl, hh1⟩, hN⟩ := hp
  have hl := rr_le hR
  have hrun' := hrun
  obtain ⟨hT, g1, g2, g3⟩ := hrun'
  have n9 : ∀ m, m < 100 → ¬ nI m = (-9 : Int32) := by decide +kernel
  have nneg : ∀ m, m < 100 → ¬ nI m < (0 : Int32) := by decide +kernel
  -- the end, when the tale is chosen
  have fin : ∀ c, c = chR a r (S + 1) h1 (nT a) → ∀ σ3 : S_, σ3 = wr2 σ0 17 h1 (ifI (c = 0) (-9) (nI (c - 1))) → ((ifI (c = 0) (-9) (nI (c - 1)) < 0 → post_X9_tellAt (nI h1) (nI S) a r S h1 σ0 σ3) ∧ (¬ ifI (c = 0) (-9) (nI (c - 1)) < 0 → (vp_in (6 * nI h1 + ifI (c = 0) (-9) (nI (c - 1))) 18) ∧ (∀ σ5 : S_, σ5 = wr2 σ3 16 (Int32.toNatClampNeg (6 * nI h1 + ifI (c = 0) (-9) (nI (c - 1)))) (nI S) → (∃ n76 : Nat, vl_X9_tellAt_76 (nI h1) (nI S) (ifI (c = 0) (-9) (nI (c - 1))) (post_X9_tellAt (nI h1) (nI S) a r S h1 σ0) n76 0 σ5)))) := by
    rintro c hc σ3 rfl
    have hcl := chR_le a r (S + 1) h1 (nT a)
    rw [← hc] at hcl
    by_cases c0 : c = 0
    · rw [ifI_t c0]
      refine ⟨fun _ => ?_, fun z => absurd (by decide) z⟩
      have htl : tlR a (S + 1) r h1 = (r.1, r.2.1, r.2.2.1, va_up r.2.2.2 h1 0) := by unfold tlR; rw [← hc, if_pos c0]
      refine ⟨sameR_w2 (by decide) (by decide), ⟨hT, fun p hq => ?_, fun p t hq ht => ?_, fun h t hh ht => ?_⟩, fun h hh => ?_⟩
      · rw [htl]; exact g1 p hq
      · rw [htl]; exact g2 p t hq ht
      · rw [htl]; exact g3 h t hh ht
      · rw [rA_w2s, htl]
        have e2 : rNw (r.1, r.2.1, r.2.2.1, va_up r.2.2.2 h1 0) h = if h = h1 then 0 else rNw r h := rfl
        rw [e2]
        by_cases e : h = h1
        · rw [if_pos e, if_pos e]; exact ⟨by decide, rfl⟩
        · rw [if_neg e, if_neg e]; exact hN h (by omega)
    · rw [ifI_f c0]
      obtain ⟨i1, i2⟩ := jx6 (h := h1) (t := c - 1) (n := 3) hh1 (by omega) (by decide)
      refine ⟨fun z => absurd z (nneg _ (by omega)), fun _ => ⟨i1, ?_⟩⟩
      rintro σ5 rfl
      rw [i2]
      have htl : tlR a (S + 1) r h1 = hdR a (r.1, r.2.1, up2 r.2.2.1 h1 (c - 1) (S + 1), va_up r.2.2.2 h1 c) h1 (c - 1) (S + 1) (nP a) := by unfold tlR; rw [← hc, if_neg c0]
      generalize hr1 : ((r.1, r.2.1, up2 r.2.2.1 h1 (c - 1) (S + 1), va_up r.2.2.2 h1 c) : RS) = r1 at htl
      have rTl1 : ∀ h t, rTl r1 h t = if h = h1 ∧ t = c - 1 then S + 1 else rTl r h t := by
        intro h t
        rw [← hr1]
        unfold rTl up2 va_up
        by_cases c1 : h = h1
        · subst c1
          by_cases c2 : t = c - 1
          · subst c2; simp
          · simp [c2]
        · simp [c1]
      have rNw1 : ∀ h, rNw r1 h = if h = h1 then c else rNw r h := by intro h; rw [← hr1]; rfl
      have enS : encR (S + 1) = nI S := by unfold encR; rw [if_neg (by omega), Nat.add_sub_cancel]
      have R1 : RunR a r1 (S + 1) (wr2 (wr2 σ0 17 h1 (nI (c - 1))) 16 (6 * h1 + (c - 1)) (nI S)) := by
        refine ⟨hT, fun p hq => ?_, fun p t hq ht => ?_, fun h t hh' ht => ?_⟩
        · have := g1 p hq; rw [← hr1]; exact this
        · have := g2 p t hq ht; rw [← hr1]; exact this
        · rw [rTl1, rA_w2s]
          by_cases e : h = h1 ∧ t = c - 1
          · rw [if_pos e, e.1, e.2, if_pos rfl]; exact ⟨Nat.le_refl _, enS.symm⟩
          · rw [if_neg e, if_neg (by omega), rA_w2n _ _ _ _ _ (show (16 : Nat) ≠ 17 by decide)]; exact g3 h t hh' ht
      have key : ∀ k i (σ' : S_), i + k = nP a → sameR σ0 σ' → RunR a (hdR a r1 h1 (c - 1) (S + 1) i) (S + 1) σ' → rdA σ' 17 = rdA (wr2 σ0 17 h1 (nI (c - 1))) 17 → vl_X9_tellAt_76 (nI h1) (nI S) (nI (c - 1)) (post_X9_tellAt (nI h1) (nI S) a r S h1 σ0) (k + 1) (nI i) σ' := by
        intro k
        induction k with
        | zero =>
          intro i σ' hi hs hR' h17
          refine ⟨fun _ => ?_, fun h => absurd (by rw [rr_P (hs.rr hR), z_le (by omega) (by omega)]; omega) h⟩
          have hie : i = nP a := by omega
          subst hie
          refine ⟨hs, htl ▸ hR', fun h hh' => ?_⟩
          rw [htl, h17, rA_w2s]
          have hf := (hd_facts a r1 h1 (c - 1) (S + 1) (nP a)).2
          have e2 : rNw (hdR a r1 h1 (c - 1) (S + 1) (nP a)) h = if h = h1 then c else rNw r h := by
            rw [← rNw1]; unfold rNw; rw [hf]
          rw [e2]
          by_cases e : h = h1
          · rw [if_pos e, if_pos e, if_neg c0]; exact ⟨by omega, rfl⟩
          · rw [if_neg e, if_neg e]; exact hN h (by omega)
        | succ k ih =>
          intro i σ' hi hs hR' h17
          have hC' := hs.rr hR
          obtain ⟨_, f1, f2, f3⟩ := hR'
          obtain ⟨b1, b2⟩ := f1 i (by omega)
          have hat : rAt (hdR a r1 h1 (c - 1) (S + 1) i) i = rAt r1 i := by unfold rAt; rw [(hd_facts a r1 h1 (c - 1) (S + 1) i).1]
          rw [hat] at b1 b2
          have hstep : hdR a r1 h1 (c - 1) (S + 1) (i + 1) = if rAt r1 i = h1 ∧ (aPaid a).testBit i = false then hearR (hdR a r1 h1 (c - 1) (S + 1) i) i (c - 1) (S + 1) else hdR a r1 h1 (c - 1) (S + 1) i := by rw [hdR]
          obtain ⟨j1, j2⟩ := jx6 (h := i) (t := c - 1) (n := 6) (by omega) (by omega) (by decide)
          have ep : fn_X9_isIn (rdI σ' 2) (nI i) = b2i ((aPaid a).testBit i = true) := by rw [rr_paid hC']; exact isIn_R (paid64 hR.1) (by omega)
          have old : rdA σ' 15 (6 * i + (c - 1)) = encR (rHd (hdR a r1 h1 (c - 1) (S + 1) i) i (c - 1)) := (f2 i (c - 1) (by omega) (by omega)).2
          have next : ∀ x : Int32, x = (if rAt r1 i = h1 ∧ (aPaid a).testBit i = false then nI S else rdA σ' 15 (6 * i + (c - 1))) → vl_X9_tellAt_76 (nI h1) (nI S) (nI (c - 1)) (post_X9_tellAt (nI h1) (nI S) a r S h1 σ0) (k + 1) (nI i + 1) (wr2 σ' 15 (6 * i + (c - 1)) x) := by
            intro x hx
            rw [nI_1]
            refine ih (i + 1) _ (by omega) (hs.tr (sameR_w2 (by decide) (by decide))) ?_ h17
            rw [hstep]
            by_cases cc : rAt r1 i = h1 ∧ (aPaid a).testBit i = false
            · rw [if_pos cc] at hx ⊢
              refine ⟨hT, f1, fun p t hq ht => ?_, f3⟩
              rw [rHd_hear, rA_w2s]
              by_cases e : p = i ∧ t = c - 1
              · rw [if_pos e, e.1, e.2, if_pos rfl, hx]; exact ⟨Nat.le_refl _, enS.symm⟩
              · rw [if_neg e, if_neg (by omega)]; exact f2 p t hq ht
            · rw [if_neg cc] at hx ⊢
              refine ⟨hT, f1, fun p t hq ht => ?_, f3⟩
              rw [rA_w2s]
              by_cases e : p = i ∧ t = c - 1
              · rw [e.1, e.2, if_pos rfl, hx]; exact f2 i (c - 1) (by omega) (by omega)
              · rw [if_neg (by omega)]; exact f2 p t hq ht
          refine ⟨fun h => ?_, fun _ => ⟨z_in (by omega) (by decide), fun x => x = (if rAt r1 i = h1 ∧ (aPaid a).testBit i = false then nI S else rdA σ' 15 (6 * i + (c - 1))), ⟨fun hne => ⟨j1, ?_⟩, fun he => ⟨fun hb => ⟨j1, ?_⟩, fun hb => ?_⟩⟩, fun b hb => ⟨j1, ?_⟩⟩⟩
          · rw [rr_P hC', z_le (by omega) (by omega)] at h; omega
          · rw [z_cl (by omega), b2, z_eq (by omega) (by omega)] at hne
            rw [j2]; exact (if_neg (fun q => hne q.1)).symm
          · rw [ep, b2i_0, Classical.not_not] at hb
            rw [j2]; exact (if_neg (fun q => by rw [hb] at q; exact Bool.noConfusion q.2)).symm
          · rw [z_cl (by omega), b2, z_eq (by omega) (by omega)] at he
            rw [ep, b2i_0, Bool.not_eq_true] at hb
            exact (if_pos ⟨he, hb⟩).symm
          · rintro σ14 rfl
            rw [j2]; exact next b hb
      exact ⟨nP a + 1, key (nP a) 0 _ (by omega) ((sameR_w2 (by decide) (by decide)).tr (sameR_w2 (by decide) (by decide))) R1 rfl⟩
  have key : ∀ k i, i + k = nT a → vl_X9_tellAt_6 (nI h1) (nI S) σ0 (post_X9_tellAt (nI h1) (nI S) a r S h1 σ0) (k + 1) (ifI (chR a r (S + 1) h1 i = 0) (-9) (nI (chR a r (S + 1) h1 i - 1))) (nI i) := by
    intro k
    induction k with
    | zero =>
      intro i hi
      have : i = nT a := by omega
      subst this
      refine ⟨fun _ => ⟨z_in (by omega) (by decide), ?_⟩, fun h => absurd (by rw [rr_T hR, z_le (by omega) (by omega)]; omega) h⟩
      rw [z_cl (by omega)]
      exact fun σ3 h3 => fin _ rfl σ3 h3
    | succ k ih =>
      intro i hi
      have hcl := chR_le a r (S + 1) h1 i
      have hnx := ih (i + 1) (by omega)
      rw [chR] at hnx
      refine ⟨fun h => ?_, fun _ => ⟨a, r, S, h1, i, ⟨hR, hrun, rfl, ⟨rfl, hh1⟩, ⟨rfl, by omega⟩⟩, fun x hx => ⟨fun e => ?_, fun e => ⟨fun hneg => ?_, fun hpos => ?_⟩⟩⟩⟩
      · rw [rr_T hR, z_le (by omega) (by omega)] at h; omega
      · rw [show x = b2i (knB a r (S + 1) h1 i = true) from hx, b2i_0, Bool.not_eq_true] at e
        rw [e] at hnx
        rw [nI_1]; exact hnx
      · rw [show x = b2i (knB a r (S + 1) h1 i = true) from hx, b2i_0, Classical.not_not] at e
        have h0 : chR a r (S + 1) h1 i = 0 := by
          by_cases c : chR a r (S + 1) h1 i = 0
          · exact c
          · rw [ifI_f c] at hneg; exact absurd hneg (nneg _ (by omega))
        rw [e, h0] at hnx
        rw [nI_1]; exact hnx
      · rw [show x = b2i (knB a r (S + 1) h1 i = true) from hx, b2i_0, Classical.not_not] at e
        have h0 : ¬ chR a r (S + 1) h1 i = 0 := fun c => hpos (by rw [ifI_t c]; decide)
        rw [ifI_f h0]
        refine ⟨a, r, S, h1, i, chR a r (S + 1) h1 i - 1, ⟨hR, hrun, ⟨rfl, hh1⟩, ⟨rfl, by omega⟩, ⟨rfl, by omega⟩⟩, fun y hy => ⟨fun e2 => ?_, fun e2 => ?_⟩⟩
        · rw [show y = b2i (rath a r h1 i (chR a r (S + 1) h1 i - 1) = true) from hy, b2i_0, Bool.not_eq_true] at e2
          rw [e, e2, decide_eq_false h0] at hnx
          rw [nI_1]
          rw [ifI_f] at hnx
          · exact hnx
          · exact h0
        · rw [show y = b2i (rath a r h1 i (chR a r (S + 1) h1 i - 1) = true) from hy, b2i_0, Classical.not_not] at e2
          rw [e, e2] at hnx
          rw [nI_1]
          simp only [Bool.or_true, Bool.and_true, if_true] at hnx
          rw [ifI_f (by omega)] at hnx
          exact hnx
  exact ⟨nT a + 1, key (nT a) 0 (by omega)⟩
theorem sp_X9_goSeason : Sp_X9_goSeason := by
  intro season a r S σ0 hp
  obtain ⟨hR, ⟨hT, g1, g2, g3⟩, rfl, hS⟩ := hp
  have hl := rr_le hR
  have enS : encR (S + 1) = nI S := by unfold encR; rw [if_neg (by omega), Nat.add_sub_cancel]
  have k3 : ∀ k i (σ : S_), i + k = 3 → sameR σ0 σ → RunR a (trR a (S + 1) (brR a S (mvR a S r (nM a)) (nT a)) i) (S + 1) σ → NowR (trR a (S + 1) (brR a S (mvR a S r (nM a)) (nT a)) i) i σ → vl_X9_goSeason_113 (nI S) (post_X9_goSeason (nI S) a r S σ0) (k + 1) (nI i) σ := by
    intro k
    induction k with
    | zero =>
      intro i σ hi hs hR' hN
      have : i = 3 := by omega
      subst this
      exact ⟨fun _ => ⟨hs, hR', hN⟩, fun h => absurd (by rw [lim3, z_le (by omega) (by omega)]; omega) h⟩
    | succ k ih =>
      intro i σ hi hs hR' hN
      refine ⟨fun h => ?_, fun _ => ⟨a, _, S, i, ⟨hs.rr hR, hR', rfl, ⟨rfl, by omega⟩, hN⟩, fun σ11 h11 => ?_⟩⟩
      · rw [lim3, z_le (by omega) (by omega)] at h; omega
      · rw [nI_1]
        exact ih (i + 1) σ11 (by omega) (hs.tr h11.1) h11.2.1 h11.2.2
  have k2 : ∀ k i (σ : S_), i + k = nT a → sameR σ0 σ → RunR a (brR a S (mvR a S r (nM a)) i) (S + 1) σ → vl_X9_goSeason_59 (nI S) (post_X9_goSeason (nI S) a r S σ0) (k + 1) (nI i) σ := by
    intro k
    induction k with
    | zero =>
      intro i σ hi hs hR'
      have : i = nT a := by omega
      subst this
      exact ⟨fun _ => ⟨3 + 1, k3 3 0 σ (by omega) hs hR' (fun h hh => absurd hh (Nat.not_lt_zero h))⟩, fun h => absurd (by rw [rr_T (hs.rr hR), z_le (by omega) (by omega)]; omega) h⟩
    | succ k ih =>
      intro i σ hi hs hR'
      have hC' := hs.rr hR
      obtain ⟨t1, t2, t3, t4⟩ := rr_t hC' (t := i) (by omega)
      have hw := wf_t hR.1 (t := i) (by omega)
      obtain ⟨_, f1, f2, f3⟩ := hR'
      obtain ⟨j1, j2⟩ := jx6 (h := aTo a i) (t := i) (n := 6) (by omega) (by omega) (by decide)
      have hst : brR a S (mvR a S r (nM a)) (i + 1) = if aTin a i = S then hearR (brR a S (mvR a S r (nM a)) i) (aTo a i) i (S + 1) else brR a S (mvR a S r (nM a)) i := by rw [brR]
      refine ⟨fun h => ?_, fun _ => ⟨z_in (by omega) (by decide), z_in (by omega) (by decide), ?_⟩⟩
      · rw [rr_T hC', z_le (by omega) (by omega)] at h; omega
      · rw [z_cl (by omega), t2, t3, j2]
        refine ⟨fun x => x = if aTin a i = S then nI S else rdA σ 15 (6 * aTo a i + i), ⟨fun h => ⟨j1, ?_⟩, fun h => ?_⟩, fun b hb => ⟨j1, ?_⟩⟩
        · rw [z_eq (by omega) (by omega)] at h; exact (if_neg h).symm
        · rw [z_eq (by omega) (by omega)] at h; exact (if_pos h).symm
        · rintro σ17 rfl
          have hb' : b = if aTin a i = S then nI S else rdA σ 15 (6 * aTo a i + i) := hb
          rw [nI_1]
          refine ih (i + 1) _ (by omega) (hs.tr (sameR_w2 (by decide) (by decide))) ?_
          rw [hst]
          by_cases c : aTin a i = S
          · rw [if_pos c] at hb' ⊢
            refine ⟨by omega, f1, fun p t hq ht => ?_, f3⟩
            rw [rHd_hear, rA_w2s]
            by_cases e : p = aTo a i ∧ t = i
            · rw [if_pos e, e.1, e.2, if_pos rfl, hb']; exact ⟨Nat.le_refl _, enS.symm⟩
            · rw [if_neg e, if_neg (by omega)]; exact f2 p t hq ht
          · rw [if_neg c] at hb' ⊢
            refine ⟨by omega, f1, fun p t hq ht => ?_, f3⟩
            rw [rA_w2s]
            by_cases e : p = aTo a i ∧ t = i
            · rw [e.1, e.2, if_pos rfl, hb']; exact f2 _ _ hw.2.1 (by omega)
            · rw [if_neg (by omega)]; exact f2 p t hq ht
  have k1 : ∀ k i (σ : S_), i + k = nM a → sameR σ0 σ → RunR a (mvR a S r i) (S + 1) σ → vl_X9_goSeason_2 (nI S) (post_X9_goSeason (nI S) a r S σ0) (k + 1) (nI i) σ := by
    intro k
    induction k with
    | zero =>
      intro i σ hi hs hR'
      have : i = nM a := by omega
      subst this
      exact ⟨fun _ => ⟨nT a + 1, k2 (nT a) 0 σ (by omega) hs hR'⟩, fun h => absurd (by rw [rr_M (hs.rr hR), z_le (by omega) (by omega)]; omega) h⟩
    | succ k ih =>
      intro i σ hi hs hR'
      have hC' := hs.rr hR
      obtain ⟨t1, t2, t3⟩ := rr_m hC' (k := i) (by omega)
      have hw := wf_m hR.1 (k := i) (by omega)
      obtain ⟨_, f1, f2, f3⟩ := hR'
      have hst : mvR a S r (i + 1) = if aMin a i = S then (va_up (mvR a S r i).1 (aMof a i) (aMto a i), (mvR a S r i).2) else mvR a S r i := by rw [mvR]
      refine ⟨fun h => ?_, fun _ => ⟨z_in (by omega) (by decide), z_in (by omega) (by decide), ?_⟩⟩
      · rw [rr_M hC', z_le (by omega) (by omega)] at h; omega
      · rw [z_cl (by omega), t1, t2, t3, z_cl (by omega)]
        refine ⟨fun x => x = if aMin a i = S then nI (aMto a i) else rdA σ 14 (aMof a i), ⟨fun h => ⟨z_in (by omega) (by decide), z_in (by omega) (by decide), ?_⟩, fun h => ⟨z_in (by omega) (by decide), ?_⟩⟩, fun b hb => ⟨z_in (by omega) (by decide), ?_⟩⟩
        · rw [z_eq (by omega) (by omega)] at h; exact (if_neg h).symm
        · rw [z_eq (by omega) (by omega)] at h; exact (if_pos h).symm
        · rintro σ17 rfl
          have hb' : b = if aMin a i = S then nI (aMto a i) else rdA σ 14 (aMof a i) := hb
          rw [nI_1]
          refine ih (i + 1) _ (by omega) (hs.tr (sameR_w2 (by decide) (by decide))) ?_
          rw [hst]
          by_cases c : aMin a i = S
          · rw [if_pos c] at hb' ⊢
            refine ⟨by omega, fun p hq => ?_, f2, f3⟩
            rw [rA_w2s]
            show va_up (mvR a S r i).1 (aMof a i) (aMto a i) p < 3 ∧ _ = nI (va_up (mvR a S r i).1 (aMof a i) (aMto a i) p)
            unfold va_up
            by_cases e : p = aMof a i
            · rw [if_pos e, if_pos e, hb']; exact ⟨hw.2.1, rfl⟩
            · rw [if_neg e, if_neg e]; exact f1 p hq
          · rw [if_neg c] at hb' ⊢
            refine ⟨by omega, fun p hq => ?_, f2, f3⟩
            rw [rA_w2s]
            by_cases e : p = aMof a i
            · rw [if_pos e, hb', e]; exact f1 _ hw.1
            · rw [if_neg e]; exact f1 p hq
  exact ⟨nM a + 1, k1 (nM a) 0 σ0 (by omega) (rf_sameR _) ⟨by omega, g1, fun p t hq ht => ⟨Nat.le_succ_of_le (g2 p t hq ht).1, (g2 p t hq ht).2⟩, fun h t hh ht => ⟨Nat.le_succ_of_le (g3 h t hh ht).1, (g3 h t hh ht).2⟩⟩⟩
theorem sp_X9_goTo : Sp_X9_goTo := by
  intro season a s1 σ0 hp
  obtain ⟨hR, rfl, hs1⟩ := hp
  refine ⟨a, hR, fun σ2 h2 => ?_⟩
  have key : ∀ k i (σ : S_), i + k = s1 + 1 → sameR σ0 σ → RunR a (runR a i) i σ → (0 < i → NowR (runR a i) 3 σ) → vl_X9_goTo_6 (nI s1) (post_X9_goTo (nI s1) a s1 σ0) (k + 1) (nI i) σ := by
    intro k
    induction k with
    | zero =>
      intro i σ hi hs hR' hN
      have : i = s1 + 1 := by omega
      subst this
      exact ⟨fun _ => ⟨hs, hR', hN (by omega)⟩, fun h => absurd (by rw [z_lt (by omega) (by omega)]; omega) h⟩
    | succ k ih =>
      intro i σ hi hs hR' hN
      refine ⟨fun h => ?_, fun _ => ⟨a, _, i, ⟨hs.rr hR, hR', rfl, by omega⟩, fun σ8 h8 => ?_⟩⟩
      · rw [z_lt (by omega) (by omega)] at h; omega
      · rw [nI_1]
        exact ih (i + 1) σ8 (by omega) (hs.tr h8.1) h8.2.1 (fun _ => h8.2.2)
  exact ⟨s1 + 1 + 1, key (s1 + 1) 0 σ2 (by omega) h2.1 h2.2 (fun h => absurd h (Nat.lt_irrefl 0))⟩
theorem sp_X9_forbiddenIn : Sp_X9_forbiddenIn := by
  intro season a r S σ hp
  obtain ⟨hR, hrun, rfl⟩ := hp
  have hl := rr_le hR
  have hT := hrun.1
  have key : ∀ k i, i + k = nT a → vl_X9_forbiddenIn_4 (nI S) σ (post_X9_forbiddenIn (nI S) a r S σ) (k + 1) (nI (forR a r (S + 1) i)) (nI i) := by
    intro k
    induction k with
    | zero =>
      intro i hi
      have : i = nT a := by omega
      subst this
      exact ⟨fun _ => rfl, fun h => absurd (by rw [rr_T hR, z_le (by omega) (by omega)]; omega) h⟩
    | succ k ih =>
      intro i hi
      obtain ⟨t1, t2, t3, t4⟩ := rr_t hR (t := i) (by omega)
      have hw := wf_t hR.1 (t := i) (by omega)
      have hnx := ih (i + 1) (by omega)
      rw [forR] at hnx
      have el : lauB a (S + 1) i = decide (aPar a i = 1 ∧ S % 7 = 6) := by unfold lauB; rw [Nat.add_sub_cancel]
      have em : nI S - nI S / 7 * 7 = nI (S % 7) := by rw [show (7 : Int32) = nI 7 from rfl, pk_rem (by omega) (by decide) (by decide)]
      refine ⟨fun h => ?_, fun _ => ⟨z_in (by omega) (by decide), ?_⟩⟩
      · rw [rr_T hR, z_le (by omega) (by omega)] at h; omega
      · rw [z_cl (by omega), t4, em, t1]
        refine ⟨fun b => b = b2i (lauB a (S + 1) i = true), ⟨fun h => ?_, fun h => ⟨by decide, fun h2 => ?_, fun h2 => ?_⟩⟩, fun b5 hb5 => ⟨fun b => b = if alB a r (S + 1) i && !lauB a (S + 1) i then nI (2 ^ aDeed a i) else 0, ⟨fun h => ?_, fun h => ⟨a, r, S, i, ⟨hR, hrun, rfl, ⟨rfl, by omega⟩⟩, fun x hx => ⟨fun e => ?_, fun e => ⟨z_in (by omega) (by decide), ?_⟩⟩⟩⟩, fun b10 hb10 => ?_⟩⟩
        · rw [show (0 : Int32) = nI 0 from rfl, z_eq (by omega) (by decide)] at h
          exact (b2i_f (by rw [el, decide_eq_true_eq]; omega)).symm
        · rw [show (6 : Int32) = nI 6 from rfl, z_eq (by omega) (by decide)] at h2
          exact (b2i_f (by rw [el, decide_eq_true_eq]; omega)).symm
        · rw [show (0 : Int32) = nI 0 from rfl, z_eq (by omega) (by decide)] at h
          rw [show (6 : Int32) = nI 6 from rfl, z_eq (by omega) (by decide)] at h2
          exact (b2i_t (by rw [el, decide_eq_true_eq]; omega)).symm
        · rw [show b5 = _ from hb5, b2i_0, Classical.not_not] at h
          show (0 : Int32) = if alB a r (S + 1) i && !lauB a (S + 1) i then nI (2 ^ aDeed a i) else 0
          rw [h]; simp
        · rw [show x = b2i (alB a r (S + 1) i = true) from hx, b2i_0, Bool.not_eq_true] at e
          show (0 : Int32) = if alB a r (S + 1) i && !lauB a (S + 1) i then nI (2 ^ aDeed a i) else 0
          rw [e]; simp
        · rw [show b5 = _ from hb5, b2i_0, Bool.not_eq_true] at h
          rw [show x = b2i (alB a r (S + 1) i = true) from hx, b2i_0, Classical.not_not] at e
          show (1 : Int32) <<< (nI (aDeed a i) &&& 31) = if alB a r (S + 1) i && !lauB a (S + 1) i then nI (2 ^ aDeed a i) else 0
          rw [e, h, sh1 _ (by omega)]; simp
        · rw [show b10 = _ from hb10, nI_1]
          by_cases c : (alB a r (S + 1) i && !lauB a (S + 1) i) = true
          · rw [if_pos c] at hnx ⊢
            rw [nI_or]; exact hnx
          · rw [if_neg c] at hnx ⊢
            rw [show (0 : Int32) = nI 0 from rfl, nI_or, Nat.or_zero]; exact hnx
  exact ⟨nT a + 1, key (nT a) 0 (by omega)⟩
theorem sp_X9_isForbidden : Sp_X9_isForbidden := by
  intro deed season a d1 s1 σ0 hp
  obtain ⟨hR, ⟨rfl, hd⟩, ⟨rfl, hs⟩⟩ := hp
  refine ⟨a, s1, ⟨hR, rfl, hs⟩, fun σ3 h3 => ⟨a, _, s1, ⟨h3.1.rr hR, h3.2.1, rfl⟩, ?_⟩⟩
  rintro r7 rfl
  refine ⟨b2i_01 _, ?_, h3.1⟩
  exact isIn_R (forR_lt hR.1 _ _ _ (Nat.le_refl _)) (by omega)
theorem sp_X9_endOf : Sp_X9_endOf := by
  intro t a t1 σ0 hp
  obtain ⟨hR, rfl, ht⟩ := hp
  have hl := rr_le hR
  have hw := wf_t hR.1 ht
  refine ⟨a, hR, fun σ2 h2 => ?_⟩
  have key : ∀ k i (σ : S_), i + k = 40 → sameR σ0 σ → RunR a (runR a i) i σ → (∀ j, j < i → (decide (aTin a t1 < j) && !alB a (runR a (j + 1)) (j + 1) t1) = false) → vl_X9_endOf_6 (nI t1) (post_X9_endOf (nI t1) a t1 σ0) (k + 1) (nI i) σ := by
    intro k
    induction k with
    | zero =>
      intro i σ hi hs hR' hn
      have : i = 40 := by omega
      subst this
      refine ⟨fun _ => ⟨?_, hs⟩, fun h => absurd (by rw [lim40, z_le (by omega) (by omega)]; omega) h⟩
      rw [ifI_t]
      exact findF_is (Nat.le_refl 40) hn (fun h => absurd h (Nat.lt_irrefl 40))
    | succ k ih =>
      intro i σ hi hs hR' hn
      refine ⟨fun h => ?_, fun _ => ⟨a, _, i, ⟨hs.rr hR, hR', rfl, by omega⟩, fun σ8 h8 => ⟨z_in (by omega) (by decide), ?_⟩⟩⟩
      · rw [lim40, z_le (by omega) (by omega)] at h; omega
      · have hs8 := hs.tr h8.1
        rw [z_cl (by omega), (rr_t (hs8.rr hR) ht).2.2.1]
        refine ⟨fun hle => ?_, fun hgt => ⟨a, _, i, t1, ⟨hs8.rr hR, h8.2.1, rfl, ⟨rfl, ht⟩⟩, fun r13 h13 => ⟨fun hal => ?_, fun hal => ?_⟩⟩⟩
        · rw [z_le (by omega) (by omega)] at hle
          rw [nI_1]
          refine ih (i + 1) σ8 (by omega) hs8 h8.2.1 (fun j hj => ?_)
          by_cases e : j = i
          · rw [e, decide_eq_false (by omega)]; rfl
          · exact hn j (by omega)
        · rw [show r13 = b2i (alB a (runR a (i + 1)) (i + 1) t1 = true) from h13, b2i_0, Classical.not_not] at hal
          rw [nI_1]
          refine ih (i + 1) σ8 (by omega) hs8 h8.2.1 (fun j hj => ?_)
          by_cases e : j = i
          · rw [e, hal]; simp
          · exact hn j (by omega)
        · rw [show r13 = b2i (alB a (runR a (i + 1)) (i + 1) t1 = true) from h13, b2i_0, Bool.not_eq_true] at hal
          rw [z_le (by omega) (by omega)] at hgt
          have hd : death a t1 = i := findF_is (by omega) hn (fun _ => by rw [hal, decide_eq_true (by omega)]; rfl)
          refine ⟨?_, hs8⟩
          rw [hd, ifI_f (by omega)]
  exact ⟨40 + 1, key 40 0 σ2 (by omega) h2.1 h2.2 (fun j hj => absurd hj (Nat.not_lt_zero j))⟩
theorem sp_X9_areSo : Sp_X9_areSo := by
  intro a σ0 hp
  have hR : RR a σ0 := hp
  have hl := rr_le hR
  refine ⟨a, hR, fun σ2 h2 => ?_⟩
  have h01 : ∀ c d : Prop, ∀ (_ : Decidable c) (_ : Decidable d), (b2i c = b2i d) ↔ (c ↔ d) := by
    intro c d _ _
    by_cases hc : c <;> by_cases hd : d
    · rw [b2i_t hc, b2i_t hd]; simp [hc, hd]
    · rw [b2i_t hc, b2i_f hd]; simp [hc, hd]
    · rw [b2i_f hc, b2i_t hd]; simp [hc, hd]
    · rw [b2i_f hc, b2i_f hd]; simp [hc, hd]
  have inner : ∀ (kO : Int32 → Int32 → S_ → Prop) (S : Nat) (σ : S_), S < 40 → sameR σ0 σ → RunR a (runR a (S + 1)) (S + 1) σ → kO (b2i (allB (soIn a S) (nR a) = true)) (nI (S + 1)) σ → ∀ k x, x + k = nR a → vl_X9_areSo_25 (nI S) σ kO (k + 1) (b2i (allB (soIn a S) x = true)) (nI x) := by
    intro kO S σ hS hs hR' hO k
    have hC' := hs.rr hR
    induction k with
    | zero =>
      intro x hx
      have : x = nR a := by omega
      subst this
      refine ⟨fun _ => ?_, fun h => absurd (by rw [rr_R hC', z_le (by omega) (by omega)]; omega) h⟩
      rw [nI_1]; exact hO
    | succ k ih =>
      intro x hx
      obtain ⟨t1, t2, t3, t4⟩ := rr_r hC' (k := x) (by omega)
      have hw := wf_r hR.1 (k := x) (by omega)
      refine ⟨fun h => ?_, fun _ => ⟨fun b => b = b2i (allB (soIn a S) (x + 1) = true), ⟨fun h => ?_, fun h => ⟨z_in (by omega) (by decide), ?_⟩⟩, fun b hb => ?_⟩⟩
      · rw [rr_R hC', z_le (by omega) (by omega)] at h; omega
      · rw [b2i_0, Bool.not_eq_true] at h
        exact (b2i_f (by rw [allB, h]; exact Bool.false_ne_true)).symm
      · rw [b2i_0, Classical.not_not] at h
        rw [z_cl (by omega), t3, t1, t2, t4]
        refine ⟨fun hne => ?_, fun he => ⟨z_in (by omega) (by decide), z_in (by omega) (by decide), a, _, S, aRof a x, aRt a x, ⟨hC', hR', rfl, ⟨rfl, hw.1⟩, ⟨rfl, hw.2.1⟩⟩, fun r20 h20 => ⟨z_in (by omega) (by decide), fun e => ?_, fun e => ?_⟩⟩⟩
        · rw [z_eq (by omega) (by omega)] at hne
          exact (b2i_t (by rw [allB, h]; unfold soIn; rw [decide_eq_false hne]; rfl)).symm
        · rw [z_eq (by omega) (by omega)] at he
          have ed : nI (aRdid a x) = b2i (aRdid a x = 1) := by
            have : aRdid a x = 0 ∨ aRdid a x = 1 := by omega
            rcases this with q | q <;> rw [q] <;> rfl
          rw [show r20 = b2i (remB a (runR a (S + 1)) (S + 1) (aRof a x) (aRt a x) = true) from h20, ed, h01] at e
          refine (b2i_f (fun q => e ?_)).symm
          rw [allB, h] at q
          have q2 : soIn a S x = true := q
          unfold soIn at q2
          rw [decide_eq_true he] at q2
          have q3 : (remB a (runR a (S + 1)) (S + 1) (aRof a x) (aRt a x) == decide (aRdid a x = 1)) = true := q2
          rw [beq_iff_eq] at q3
          rw [q3, decide_eq_true_eq]
        · rw [z_eq (by omega) (by omega)] at he
          have ed : nI (aRdid a x) = b2i (aRdid a x = 1) := by
            have : aRdid a x = 0 ∨ aRdid a x = 1 := by omega
            rcases this with q | q <;> rw [q] <;> rfl
          rw [show r20 = b2i (remB a (runR a (S + 1)) (S + 1) (aRof a x) (aRt a x) = true) from h20, ed, h01] at e
          refine (b2i_t ?_).symm
          rw [allB, h]
          show soIn a S x = true
          unfold soIn
          rw [decide_eq_true he]
          show (remB a (runR a (S + 1)) (S + 1) (aRof a x) (aRt a x) == decide (aRdid a x = 1)) = true
          rw [beq_iff_eq]
          by_cases hd : aRdid a x = 1
          · rw [e.mpr hd, decide_eq_true hd]
          · rw [Bool.eq_false_iff.mpr (fun q => hd (e.mp q)), decide_eq_false hd]
      · rw [show b = _ from hb, nI_1]; exact ih (x + 1) (by omega)
  have key : ∀ k i (σ : S_), i + k = 40 → sameR σ0 σ → RunR a (runR a i) i σ → vl_X9_areSo_8 (post_X9_areSo a σ0) (k + 1) (b2i (allB (fun S => allB (soIn a S) (nR a)) i = true)) (nI i) σ := by
    intro k
    induction k with
    | zero =>
      intro i σ hi hs hR'
      have : i = 40 := by omega
      subst this
      exact ⟨fun _ => ⟨b2i_01 _, rfl, hs⟩, fun h => absurd (by rw [lim40, z_le (by omega) (by omega)]; omega) h⟩
    | succ k ih =>
      intro i σ hi hs hR'
      refine ⟨fun h => ?_, fun _ => ⟨fun h => ⟨b2i_01 _, ?_, hs⟩, fun h => ⟨a, _, i, ⟨hs.rr hR, hR', rfl, by omega⟩, fun σ9 h9 => ⟨nR a + 1, ?_⟩⟩⟩⟩
      · rw [lim40, z_le (by omega) (by omega)] at h; omega
      · rw [b2i_0] at h
        refine (b2i_c ⟨fun q => absurd q h, fun q => absurd ?_ h⟩)
        unfold soB at q
        rw [allB_iff] at q ⊢
        exact fun j hj => q j (by omega)
      · rw [b2i_0, Classical.not_not] at h
        have hin := inner (vl_X9_areSo_8 (post_X9_areSo a σ0) (k + 1)) i σ9 (by omega) (hs.tr h9.1) h9.2.1 ?_ (nR a) 0 (by omega)
        · rw [b2i_t (show allB (soIn a i) 0 = true from rfl)] at hin
          rw [b2i_t h]; exact hin
        · have := ih (i + 1) σ9 (by omega) (hs.tr h9.1) h9.2.1
          rw [b2i_c (d := allB (soIn a i) (nR a) = true) (by rw [allB, h]; exact Iff.rfl)] at this
          exact this
  refine ⟨40 + 1, ?_⟩
  have := key 40 0 σ2 (by omega) h2.1 h2.2
  rw [b2i_t (show allB (fun S => allB (soIn a S) (nR a)) 0 = true from rfl)] at this
  exact this
