theorem mask_same {a : AS} {r r' : RS} {T p : Nat} (h : ∀ t, t < nT a → remB a r' T p t = remB a r T p t) : maskB (remB a r T p) (nT a) = maskB (remB a r' T p) (nT a) := maskB_c (fun t ht => (h t ht).symm)
theorem sp_X4_hear : Sp_X4_hear := by
  intro p t a r T p1 t1 σ hp
  obtain ⟨hC, ⟨hT, e11, e9, e10, hp, hpt, hht⟩, h1T, ⟨rfl, hp1⟩, ⟨rfl, ht1⟩⟩ := hp
  have hl := rc_le hC
  obtain ⟨i1, i2⟩ := ix6 (h := p1) (t := t1) (n := 6) (by omega) (by omega) (by decide)
  obtain ⟨b1, b2, b3, b4⟩ := hp p1 hp1
  have hm := memA_le hC.1 hp1
  refine ⟨fun h => ?_, fun _ => ⟨fun h => ?_, fun _ => ?_⟩⟩
  · rw [b2i_0] at h; exact absurd (one_in (show (6 : Int32) = nI 6 from rfl) (by omega) (by decide)) h
  · rw [b2i_0] at h; exact absurd (one_in (show (6 : Int32) = nI 6 from rfl) (by omega) (by decide)) h
  · rw [i2, z_cl (by omega), b4, sh1 _ (by omega), nI_or]
    refine ⟨z_in (by omega) (by decide), z_in (by omega) (by decide), ?_⟩
    rintro σ1 rfl
    refine ⟨z_in (by omega) (by decide), i1, ?_⟩
    rintro σ3 rfl
    rw [rI_w2, rA_w2n _ _ _ _ _ (show (9 : Nat) ≠ 10 by decide), b3, m1_nI e11 h1T, nI_add]
    refine ⟨(sameB_w2 (by decide)).tr (sameB_w2 (by decide)), ⟨hT, e11, e9, e10, fun p hq => ?_, fun p t hq ht => ?_, fun h t hh ht => ?_⟩, ?_⟩
    · obtain ⟨c1, c2, c3, c4⟩ := hp p hq
      refine ⟨c1, c2, c3, ?_⟩
      rw [rA_w2n _ _ _ _ _ (show (10 : Nat) ≠ 11 by decide), rA_w2s]
      by_cases e : p = p1
      · subst e
        rw [if_pos rfl, maskB_add (g := remB a (hearR r p t1 T) T p) ht1 (fun i hi => ?_)]
        rw [remB_hear]
        by_cases e2 : i = t1
        · rw [if_pos ⟨rfl, e2⟩, if_pos e2, decide_eq_true (by omega)]
        · rw [if_neg (fun q => e2 q.2), if_neg e2]
      · rw [if_neg e, c4, mask_same (fun t ht => ?_)]
        rw [remB_hear, if_neg (fun q => e q.1)]
    · rw [rHd_hear, rA_w2s]
      by_cases e : p = p1 ∧ t = t1
      · rw [if_pos e, e.1, e.2, if_pos rfl]
        refine ⟨Nat.le_refl _, fun _ => ?_⟩
        congr 1; omega
      · rw [if_neg e, if_neg (by omega)]
        exact hpt p t hq ht
    · exact hht h t hh ht
    · rfl
theorem hd_facts (a : AS) (r : RS) (h t T : Nat) : ∀ n, (hdR a r h t T n).1 = r.1 ∧ (hdR a r h t T n).2.2 = r.2.2 := by
  intro n
  induction n with
  | zero => exact ⟨rfl, rfl⟩
  | succ n ih =>
    rw [hdR]; split
    · exact ih
    · exact ih
theorem paid_bit {a : AS} (hw : WF a) {σ : S_} (e9 : rdI σ 9 = nI (aPaid a)) {p : Nat} (hp : p < nP a) : fn_X8_isIn (nI p) (rdI σ 9) = b2i ((aPaid a).testBit p = true) := by
  have h6 : nP a ≤ 6 := hw.2.1
  have hp64 : aPaid a < 64 := Nat.lt_of_lt_of_le hw.2.2.1 (Nat.pow_le_pow_right (by decide) h6)
  rw [e9]
  apply b2i_c
  rw [bit_s _ hp64 p (by omega)]
theorem sp_X4_tellAt : Sp_X4_tellAt := by
  intro h a r T h1 σ hp
  obtain ⟨hC, hR, h1T, ⟨rfl, hh⟩, hN⟩ := hp
  have hl := rc_le hC
  refine ⟨a, r, T, h1, ⟨hC, hR, rfl, hh⟩, ?_⟩
  rintro r5 rfl
  refine ⟨a, r, T, h1, ⟨hC, hR, ⟨rfl, hh⟩, rfl⟩, ?_⟩
  intro r10 h10
  have hcl := chR_le a r T h1 (nT a)
  obtain ⟨hT, e11, e9, e10, hp, hpt, hht⟩ := hR
  refine ⟨z_in (by omega) (by decide), ?_⟩
  rintro σ11 rfl
  rw [z_cl (by omega)]
  have n9 : ∀ m, m < 100 → ¬ nI m = (-9 : Int32) := by decide +kernel
  refine ⟨fun h9 => ?_, fun h9 => ?_⟩
  · have h0 : ¬ chR a r T h1 (nT a) = 0 := fun e => h9 (h10.trans (ifI_t e))
    have e10' : r10 = nI (chR a r T h1 (nT a) - 1) := h10.trans (ifI_f h0)
    have htl : tlR a T r h1 = hdR a (r.1, r.2.1, up2 r.2.2.1 h1 (chR a r T h1 (nT a) - 1) T, va_up r.2.2.2 h1 (chR a r T h1 (nT a))) h1 (chR a r T h1 (nT a) - 1) T (nP a) := by unfold tlR; rw [if_neg h0]
    generalize hc : chR a r T h1 (nT a) = cc at *
    subst e10'
    obtain ⟨i1, i2⟩ := ix6 (h := h1) (t := cc - 1) (n := 3) hh (by omega) (by decide)
    refine ⟨i1, ?_⟩
    rintro σ13 rfl
    rw [i2, rI_w2]
    generalize hr1 : ((r.1, r.2.1, up2 r.2.2.1 h1 (cc - 1) T, va_up r.2.2.2 h1 cc) : RS) = r1 at htl
    have rTl1 : ∀ h t, rTl r1 h t = if h = h1 ∧ t = cc - 1 then T else rTl r h t := by
      intro h t
      rw [← hr1]
      unfold rTl up2 va_up
      by_cases c1 : h = h1
      · subst c1
        by_cases c2 : t = cc - 1
        · subst c2; simp
        · simp [c2]
      · simp [c1]
    have rNw1 : ∀ h, rNw r1 h = if h = h1 then cc else rNw r h := by intro h; rw [← hr1]; rfl
    have R1 : RunC a r1 T T (wr2 (wr2 σ 13 h1 (nI (cc - 1))) 12 (6 * h1 + (cc - 1)) (rdI σ 11)) := by
      refine ⟨hT, e11, e9, e10, fun p hq => ?_, fun p t hq ht => ?_, fun h t hh' ht => ?_⟩
      · have := hp p hq; rw [← hr1]; exact this
      · have := hpt p t hq ht; rw [← hr1]; exact this
      · rw [rTl1, rA_w2s]
        by_cases e : h = h1 ∧ t = cc - 1
        · rw [if_pos e, e.1, e.2, if_pos rfl]; exact ⟨Nat.le_refl _, e11⟩
        · rw [if_neg e, if_neg (by omega), rA_w2n _ _ _ _ _ (show (12 : Nat) ≠ 13 by decide)]; exact hht h t hh' ht
    have key : ∀ k i (σ' : S_), i + k = nP a → sameB σ σ' → RunC a (hdR a r1 h1 (cc - 1) T i) T T σ' → rdA σ' 13 = rdA (wr2 σ 13 h1 (nI (cc - 1))) 13 → vl_X4_tellAt_42 (nI h1) (nI (cc - 1)) (post_X4_tellAt (nI h1) a r T h1 σ) (k + 1) (nI i) σ' := by
      intro k
      induction k with
      | zero =>
        intro i σ' hi hs hR' h13
        refine ⟨fun _ => ?_, fun h => absurd (by rw [rc_P (hs.rc0 hC), z_le (by omega) (by omega)]; omega) h⟩
        have hie : i = nP a := by omega
        subst hie
        refine ⟨hs, htl ▸ hR', fun h hh' => ?_⟩
        rw [htl, h13, rA_w2s]
        have hf := (hd_facts a r1 h1 (cc - 1) T (nP a)).2
        have e2 : rNw (hdR a r1 h1 (cc - 1) T (nP a)) h = if h = h1 then cc else rNw r h := by
          rw [← rNw1]; unfold rNw; rw [hf]
        rw [e2]
        by_cases e : h = h1
        · rw [if_pos e, if_pos e, if_neg h0]; exact ⟨by omega, rfl⟩
        · rw [if_neg e, if_neg e]; exact hN h (by omega)
      | succ k ih =>
        intro i σ' hi hs hR' h13
        have hC' := hs.rc0 hC
        have hR2 := hR'
        obtain ⟨_, f11, f9, f10, fp, fpt, fht⟩ := hR2
        obtain ⟨b1, b2, b3, b4⟩ := fp i (by omega)
        have hat : rAt (hdR a r1 h1 (cc - 1) T i) i = rAt r1 i := by unfold rAt; rw [(hd_facts a r1 h1 (cc - 1) T i).1]
        rw [hat] at b1 b2
        have hstep : hdR a r1 h1 (cc - 1) T (i + 1) = if rAt r1 i = h1 ∧ (aPaid a).testBit i = false then hearR (hdR a r1 h1 (cc - 1) T i) i (cc - 1) T else hdR a r1 h1 (cc - 1) T i := by rw [hdR]
        refine ⟨fun h => ?_, fun _ => ⟨z_in (by omega) (by decide), ⟨fun hne => ?_, fun he => ⟨fun hb => ?_, fun hb => ?_⟩⟩⟩⟩
        · rw [rc_P hC', z_le (by omega) (by omega)] at h; omega
        · rw [z_cl (by omega), b2, z_eq (by omega) (by omega)] at hne
          rw [nI_1]
          exact ih (i + 1) σ' (by omega) hs (by rw [hstep, if_neg (fun q => hne q.1)]; exact hR') h13
        · rw [paid_bit hC.1 f9 (by omega), b2i_0, Classical.not_not] at hb
          rw [nI_1]
          exact ih (i + 1) σ' (by omega) hs (by rw [hstep, if_neg (fun q => by rw [hb] at q; exact Bool.noConfusion q.2)]; exact hR') h13
        · rw [z_cl (by omega), b2, z_eq (by omega) (by omega)] at he
          rw [paid_bit hC.1 f9 (by omega), b2i_0, Bool.not_eq_true] at hb
          refine ⟨a, _, T, i, cc - 1, ⟨hC', hR', h1T, ⟨rfl, by omega⟩, ⟨rfl, by omega⟩⟩, ?_⟩
          intro σ22 h22
          rw [nI_1]
          exact ih (i + 1) σ22 (by omega) (hs.tr h22.1) (by rw [hstep, if_pos ⟨he, hb⟩]; exact h22.2.1) (h22.2.2.trans h13)
    exact ⟨nP a + 1, key (nP a) 0 _ (by omega) ((sameB_w2 (by decide)).tr (sameB_w2 (by decide))) R1 rfl⟩
  · have h0 : chR a r T h1 (nT a) = 0 := by
      by_cases e : chR a r T h1 (nT a) = 0
      · exact e
      · exact absurd ((h10.trans (ifI_f e)).symm.trans h9) (n9 _ (by omega))
    have htl : tlR a T r h1 = (r.1, r.2.1, r.2.2.1, va_up r.2.2.2 h1 0) := by unfold tlR; rw [if_pos h0]
    refine ⟨sameB_w2 (by decide), ⟨hT, e11, e9, e10, fun p hq => ?_, fun p t hq ht => ?_, fun h t hh' ht => ?_⟩, fun h hh' => ?_⟩
    · rw [htl]; exact hp p hq
    · rw [htl]; exact hpt p t hq ht
    · rw [htl]; exact hht h t hh' ht
    · rw [rA_w2s, htl]
      have e2 : rNw (r.1, r.2.1, r.2.2.1, va_up r.2.2.2 h1 0) h = if h = h1 then 0 else rNw r h := rfl
      rw [e2]
      by_cases e : h = h1
      · rw [if_pos e, if_pos e]; exact ⟨by decide, by rw [h9]; rfl⟩
      · rw [if_neg e, if_neg e]; exact hN h (by omega)
theorem sp_X4_forget : Sp_X4_forget := by
  intro a r T σ0 hp
  obtain ⟨hC, ⟨hT, e11, e9, e10, hp, hpt, hht⟩, h1T⟩ := hp
  have hl := rc_le hC
  -- persons below i are done; of i the tales below x
  have inv : Nat → Nat → S_ → Prop := fun i x σ => True
  have base : ∀ i x (σ : S_), (sameB σ0 σ ∧ rdI σ 11 = rdI σ0 11 ∧ rdI σ 9 = rdI σ0 9 ∧ rdI σ 10 = rdI σ0 10 ∧ rdA σ 8 = rdA σ0 8 ∧ rdA σ 9 = rdA σ0 9 ∧ rdA σ 11 = rdA σ0 11 ∧ rdA σ 12 = rdA σ0 12 ∧ (∀ p, p < nP a → rdA σ 10 p = nI (maskB (fun t => if p < i ∨ (p = i ∧ t < x) then remB a r T p t else remB a r (T - 1) p t) (nT a)))) → True := fun _ _ _ _ => trivial
  have mono : ∀ p t, remB a r T p t = true → remB a r (T - 1) p t = true := by
    intro p t h; unfold remB at h ⊢; rw [decide_eq_true_eq] at h ⊢; omega
  have inner : ∀ (kO : Int32 → S_ → Prop) (i : Nat), i < nP a → ∀ k x (σ : S_), x + k = nT a → (sameB σ0 σ ∧ rdI σ 11 = rdI σ0 11 ∧ rdI σ 9 = rdI σ0 9 ∧ rdI σ 10 = rdI σ0 10 ∧ rdA σ 8 = rdA σ0 8 ∧ rdA σ 9 = rdA σ0 9 ∧ rdA σ 11 = rdA σ0 11 ∧ rdA σ 12 = rdA σ0 12 ∧ (∀ p, p < nP a → rdA σ 10 p = nI (maskB (fun t => if p < i ∨ (p = i ∧ t < x) then remB a r T p t else remB a r (T - 1) p t) (nT a)))) → (∀ σ', (sameB σ0 σ' ∧ rdI σ' 11 = rdI σ0 11 ∧ rdI σ' 9 = rdI σ0 9 ∧ rdI σ' 10 = rdI σ0 10 ∧ rdA σ' 8 = rdA σ0 8 ∧ rdA σ' 9 = rdA σ0 9 ∧ rdA σ' 11 = rdA σ0 11 ∧ rdA σ' 12 = rdA σ0 12 ∧ (∀ p, p < nP a → rdA σ' 10 p = nI (maskB (fun t => if p < i + 1 ∨ (p = i + 1 ∧ t < 0) then remB a r T p t else remB a r (T - 1) p t) (nT a)))) → kO (nI (i + 1)) σ') → vl_X4_forget_15 (nI i) kO (k + 1) (nI x) σ := by
    intro kO i hi k
    induction k with
    | zero =>
      intro x σ hx hI hO
      obtain ⟨s0, s1, s2, s3, s4, s5, s6, s7, s8⟩ := hI
      refine ⟨fun _ => ?_, fun h => absurd (by rw [rc_T (s0.rc0 hC), z_le (by omega) (by omega)]; omega) h⟩
      rw [nI_1]
      refine hO σ ⟨s0, s1, s2, s3, s4, s5, s6, s7, fun p hq => ?_⟩
      rw [s8 p hq]
      congr 1
      apply maskB_c
      intro t ht
      by_cases c : p < i ∨ p = i ∧ t < x
      · rw [if_pos c, if_pos (by omega)]
      · rw [if_neg c, if_neg (by omega)]
    | succ k ih =>
      intro x σ hx hI hO
      have hI' := hI
      obtain ⟨s0, s1, s2, s3, s4, s5, s6, s7, s8⟩ := hI'
      have hC' := s0.rc0 hC
      obtain ⟨i1, i2⟩ := ix6 (h := i) (t := x) (n := 6) (by omega) (by omega) (by decide)
      have eS : rdI σ0 11 = nI (T - 1) := m1_nI e11 h1T
      have hm := memA_le hC.1 hi
      have next : ∀ σ', (sameB σ0 σ' ∧ rdI σ' 11 = rdI σ0 11 ∧ rdI σ' 9 = rdI σ0 9 ∧ rdI σ' 10 = rdI σ0 10 ∧ rdA σ' 8 = rdA σ0 8 ∧ rdA σ' 9 = rdA σ0 9 ∧ rdA σ' 11 = rdA σ0 11 ∧ rdA σ' 12 = rdA σ0 12) → (∀ p, p < nP a → rdA σ' 10 p = nI (maskB (fun t => if p < i ∨ (p = i ∧ t < x + 1) then remB a r T p t else remB a r (T - 1) p t) (nT a))) → vl_X4_forget_15 (nI i) kO (k + 1) (nI x + 1) σ' := by
        intro σ' h1 h2
        rw [nI_1]
        exact ih (x + 1) σ' (by omega) ⟨h1.1, h1.2.1, h1.2.2.1, h1.2.2.2.1, h1.2.2.2.2.1, h1.2.2.2.2.2.1, h1.2.2.2.2.2.2.1, h1.2.2.2.2.2.2.2, h2⟩ hO
      refine ⟨fun h => ?_, fun _ => ⟨i1, ⟨fun hge => ?_, fun hlt => ?_⟩⟩⟩
      · rw [rc_T hC', z_le (by omega) (by omega)] at h; omega
      · rw [i2, s1, s6, eS] at hge
        refine next σ ⟨s0, s1, s2, s3, s4, s5, s6, s7⟩ (fun p hq => ?_)
        rw [s8 p hq]
        congr 1
        apply maskB_c
        intro t ht
        by_cases c : p = i ∧ t = x
        · obtain ⟨rfl, rfl⟩ := c
          rw [if_neg (by omega), if_pos (by omega)]
          by_cases hz : 0 < rHd r p t
          · have q := hpt p t hi ht
            rw [q.2 hz, z_le (by omega) (by omega)] at hge
            unfold remB; apply decide_eq_decide.mpr; omega
          · unfold remB; apply decide_eq_decide.mpr; omega
        · by_cases c2 : p < i ∨ p = i ∧ t < x
          · rw [if_pos c2, if_pos (by omega)]
          · rw [if_neg c2, if_neg (by omega)]
      · rw [i2, s1, s6, eS] at hlt
        rw [z_cl (by omega)]
        refine ⟨z_in (by omega) (by decide), z_in (by omega) (by decide), ?_⟩
        rintro σ5 rfl
        refine next _ ⟨s0.tr (sameB_w2 (by decide)), s1, s2, s3, s4, s5, s6, s7⟩ (fun p hq => ?_)
        rw [rA_w2s]
        by_cases c : p = i
        · subst c
          rw [if_pos rfl, s8 p hq, clr_s _ (maskB_lt64 _ (by omega)) x (by omega)]
          rw [maskB_clr (g := fun t => if p < p ∨ (p = p ∧ t < x + 1) then remB a r T p t else remB a r (T - 1) p t) (by omega) (by omega) (fun t ht => ?_)]
          by_cases c2 : t = x
          · subst c2
            rw [if_pos (by omega), if_pos rfl]
            unfold remB
            apply decide_eq_false
            intro hz
            have q := hpt p t hi ht
            rw [q.2 hz.1, z_le (by omega) (by omega)] at hlt
            omega
          · rw [if_neg c2]
            by_cases c3 : p < p ∨ p = p ∧ t < x
            · rw [if_pos c3, if_pos (by omega)]
            · rw [if_neg c3, if_neg (by omega)]
        · rw [if_neg c, s8 p hq]
          congr 1
          apply maskB_c
          intro t ht
          by_cases c2 : p < i ∨ p = i ∧ t < x
          · rw [if_pos c2, if_pos (by omega)]
          · rw [if_neg c2, if_neg (by omega)]
  have outer : ∀ k i (σ : S_), i + k = nP a → (sameB σ0 σ ∧ rdI σ 11 = rdI σ0 11 ∧ rdI σ 9 = rdI σ0 9 ∧ rdI σ 10 = rdI σ0 10 ∧ rdA σ 8 = rdA σ0 8 ∧ rdA σ 9 = rdA σ0 9 ∧ rdA σ 11 = rdA σ0 11 ∧ rdA σ 12 = rdA σ0 12 ∧ (∀ p, p < nP a → rdA σ 10 p = nI (maskB (fun t => if p < i ∨ (p = i ∧ t < 0) then remB a r T p t else remB a r (T - 1) p t) (nT a)))) → vl_X4_forget_2 (post_X4_forget a r T σ0) (k + 1) (nI i) σ := by
    intro k
    induction k with
    | zero =>
      intro i σ hi hI
      obtain ⟨s0, s1, s2, s3, s4, s5, s6, s7, s8⟩ := hI
      refine ⟨fun _ => ?_, fun h => absurd (by rw [rc_P (s0.rc0 hC), z_le (by omega) (by omega)]; omega) h⟩
      refine ⟨s0, hT, by rw [s1]; exact e11, by rw [s2]; exact e9, by rw [s3]; exact e10, fun p hq => ?_, fun p t hq ht => ?_, fun h t hh ht => ?_⟩
      · obtain ⟨b1, b2, b3, b4⟩ := hp p hq
        rw [s4, s5, s8 p hq]
        refine ⟨b1, b2, b3, ?_⟩
        congr 1
        apply maskB_c
        intro t ht
        rw [if_pos (by omega)]
      · rw [s6]; exact hpt p t hq ht
      · rw [s7]; exact hht h t hh ht
    | succ k ih =>
      intro i σ hi hI
      refine ⟨fun h => ?_, fun _ => ?_⟩
      · rw [rc_P (hI.1.rc0 hC), z_le (by omega) (by omega)] at h; omega
      · exact ⟨nT a + 1, inner _ i (by omega) (nT a) 0 σ (by omega) hI (fun σ' h' => ih (i + 1) σ' (by omega) h')⟩
  refine ⟨nP a + 1, outer (nP a) 0 σ0 (by omega) ⟨rf_sameB _, rfl, rfl, rfl, rfl, rfl, rfl, rfl, fun p hq => ?_⟩⟩
  rw [(hp p hq).2.2.2]
  congr 1
  apply maskB_c
  intro t ht
  rw [if_neg (by omega)]
