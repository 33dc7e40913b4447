theorem rr_P' {a b : AS} {σ : S_} (h : RR b σ) (e : nP b = nP a) : rdI σ 1 = nI (nP a) := by rw [← e]; exact rr_P h
theorem sp_X9_clash : Sp_X9_clash := by
  intro what a σ0 hp
  have hR : RR a σ0 := hp
  have hl := rr_le hR
  refine ⟨fun h => ⟨fun h2 => ⟨a, hR, fun σ2 h3 => ?_⟩, fun h2 => ?_⟩, fun h => ?_⟩
  · rw [in2, Classical.not_not] at h
    rw [rr_P hR, z0 (by omega)] at h2
    have g : ¬ ¬ inR what 2 := fun z => z h
    have eres : res_clash what a = if clashS a = 40 then -9 else if what = 0 then nI (clashS a) else nI (unmet a (forb a (clashS a))) := by unfold res_clash; rw [if_neg g, if_neg h2]
    have key : ∀ k i (σ : S_), i + k = 40 → sameR σ0 σ → RunR a (runR a i) i σ → (∀ j, j < i → (!decide (unmet a (forb a j) = nN a)) = false) → vl_X9_clash_29 what (post_X9_clash what a σ0) (k + 1) (nI i) σ := by
      intro k
      induction k with
      | zero =>
        intro i σ hi hs' hR' hn
        have : i = 40 := by omega
        subst this
        refine ⟨fun _ => ⟨?_, hs'.rr hR⟩, fun h => absurd (by rw [lim40, z_le (by omega) (by omega)]; omega) h⟩
        rw [eres, if_pos]
        exact findF_is (Nat.le_refl 40) hn (fun h => absurd h (Nat.lt_irrefl 40))
      | succ k ih =>
        intro i σ hi hs' hR' hn
        refine ⟨fun h => ?_, fun _ => ⟨a, _, i, ⟨hs'.rr hR, hR', rfl, by omega⟩, fun σ8 h8 => ⟨a, _, i, ⟨(hs'.tr h8.1).rr hR, h8.2.1, rfl⟩, ?_⟩⟩⟩
        · rw [lim40, z_le (by omega) (by omega)] at h; omega
        · rintro r12 rfl
          have hR8 := (hs'.tr h8.1).rr hR
          have h64 : forb a i < 64 := forR_lt hR.1 _ _ _ (Nat.le_refl _)
          have inner : ∀ n x, x + n = nN a → (∀ j, j < x → ((forb a i).testBit (aN1 a j) && (forb a i).testBit (aN2 a j)) = false) → vl_X9_clash_49 what (nI i) σ8 (nI (forb a i)) (vl_X9_clash_29 what (post_X9_clash what a σ0) (k + 1)) (post_X9_clash what a σ0) (n + 1) (nI x) := by
            intro n
            induction n with
            | zero =>
              intro x hx hno
              have : x = nN a := by omega
              subst this
              refine ⟨fun _ => ?_, fun h => absurd (by rw [rr_N hR8, z_le (by omega) (by omega)]; omega) h⟩
              have hu : unmet a (forb a i) = nN a := findF_is (Nat.le_refl _) hno (fun h => absurd h (Nat.lt_irrefl _))
              rw [nI_1]
              refine ih (i + 1) σ8 (by omega) (hs'.tr h8.1) h8.2.1 (fun j hj => ?_)
              by_cases e : j = i
              · rw [e, decide_eq_true hu]; rfl
              · exact hn j (by omega)
            | succ n ihn =>
              intro x hx hno
              obtain ⟨t1, t2⟩ := rr_n hR8 (k := x) (by omega)
              have hw := wf_n hR.1 (k := x) (by omega)
              refine ⟨fun h => ?_, fun _ => ⟨z_in (by omega) (by decide), ?_⟩⟩
              · rw [rr_N hR8, z_le (by omega) (by omega)] at h; omega
              · rw [z_cl (by omega), t1, t2, isIn_R h64 (by omega), isIn_R h64 (by omega)]
                refine ⟨fun e => ?_, fun e => ⟨z_in (by omega) (by decide), fun e2 => ?_, fun e2 => ?_⟩⟩
                · rw [b2i_0, Bool.not_eq_true] at e
                  rw [nI_1]
                  refine ihn (x + 1) (by omega) (fun j hj => ?_)
                  by_cases q : j = x
                  · rw [q, e]; rfl
                  · exact hno j (by omega)
                · rw [b2i_0, Bool.not_eq_true] at e2
                  rw [nI_1]
                  refine ihn (x + 1) (by omega) (fun j hj => ?_)
                  by_cases q : j = x
                  · rw [q, e2, Bool.and_false]
                  · exact hno j (by omega)
                · rw [b2i_0, Classical.not_not] at e e2
                  have hu : unmet a (forb a i) = x := findF_is (by omega) hno (fun _ => by rw [e, e2]; rfl)
                  have hc : clashS a = i := findF_is (by omega) hn (fun _ => by rw [hu, decide_eq_false (by omega)]; rfl)
                  rw [hc, hu, if_neg (show ¬ i = 40 by omega)] at eres
                  refine ⟨fun hw0 => ⟨?_, hR8⟩, fun hw0 => ⟨?_, hR8⟩⟩
                  · rw [eres, if_neg hw0]
                  · rw [eres, if_pos hw0]
          exact ⟨nN a + 1, inner (nN a) 0 (by omega) (fun j hj => absurd hj (Nat.not_lt_zero j))⟩
    exact ⟨40 + 1, key 40 0 σ2 (by omega) h3.1 h3.2 (fun j hj => absurd hj (Nat.not_lt_zero j))⟩
  · rw [in2, Classical.not_not] at h
    rw [rr_P hR, z0 (by omega)] at h2
    have g : ¬ ¬ inR what 2 := fun z => z h
    exact ⟨by unfold res_clash; rw [if_neg g, if_pos h2], hR⟩
  · rw [in2] at h
    exact ⟨by unfold res_clash; rw [if_pos h], hR⟩
theorem rr_to {a : AS} {σ : S_} (h : RR a σ) {t p : Nat} (hp : p < nP a) : RR (set2 a 4 t p) (wr2 σ 8 t (nI p)) := by
  obtain ⟨w, e0, e1, e2, e3, e6, e7, e8, e9, e10, hp', ht, hm', hn, hr, hs'⟩ := h
  have ft : ∀ x, aTo (set2 a 4 t p) x = if x = t then p else aTo a x := fun _ => rfl
  refine ⟨?_, e0, e1, e2, e3, e6, e7, e8, e9, e10, hp', fun x hx => ?_, hm', hn, hr, hs'⟩
  · obtain ⟨w1, w2, w3, w4, w5, w6, w7, w8, w9, w10, w11, w12, w13, w14, w15, w16⟩ := w
    refine ⟨w1, w2, w3, w4, w5, w6, w7, w8, w9, w10, fun x hx => ?_, w12, w13, w14, w15, w16⟩
    obtain ⟨v1, v2, v3, v4⟩ := w11 x hx
    refine ⟨v1, ?_, v3, v4⟩
    rw [ft]; split
    · exact hp
    · exact v2
  · obtain ⟨v1, v2, v3, v4⟩ := ht x hx
    refine ⟨v1, ?_, v3, v4⟩
    rw [ft, rA_w2s]
    by_cases e : x = t
    · rw [if_pos e, if_pos e]
    · rw [if_neg e, if_neg e]; exact v2
theorem mask_s (f : Nat → Bool) (i : Nat) (b : Int32) (hb : b = if f i = true then nI (2 ^ i) else 0) : nI (maskB f i) ||| b = nI (maskB f (i + 1)) := by
  rw [maskB, hb]
  by_cases c : f i = true
  · rw [if_pos c, if_pos c, nI_or]
  · rw [if_neg c, if_neg c, show (0 : Int32) = nI 0 from rfl, nI_or, Nat.or_zero]
theorem sp_X9_comes : Sp_X9_comes := by
  intro t a σ0 hp
  have hR : RR a σ0 := hp
  have hl := rr_le hR
  refine ⟨fun h => ?_, fun h => ?_⟩
  · rw [noT hR] at h
    have g : ¬ ¬ inR t (nT a) := fun z => z h
    have eres : res_comes t a = nI (maskB (fun p => soB (set2 a 4 (toN t) p)) (nP a)) := by unfold res_comes; rw [if_neg g]
    obtain ⟨q, hq, rfl⟩ := (inR_iff (n := nT a) (by omega)).mp h
    rw [show toN (nI q) = q from z_cl (by omega)] at eres
    have hcl : Int32.toNatClampNeg (nI q) = q := z_cl (by omega)
    have hqi : vp_in (nI q) 6 := z_in (by omega) (by decide)
    have hw := wf_t hR.1 hq
    refine ⟨hqi, ?_⟩
    have key : ∀ k i x (σ : S_), i + k = nP a → RR (set2 a 4 q x) σ → vl_X9_comes_22 (nI q) σ0 (post_X9_comes (nI q) a σ0) (k + 1) (nI (maskB (fun p => soB (set2 a 4 q p)) i)) (nI i) σ := by
      intro k
      induction k with
      | zero =>
        intro i x σ hi hx
        have : i = nP a := by omega
        subst this
        refine ⟨fun _ => ⟨hqi, ?_⟩, fun h => absurd (by rw [rr_P' (a := a) hx rfl, z_le (by omega) (by omega)]; omega) h⟩
        rintro σ4 rfl
        refine ⟨eres.symm, ?_⟩
        rw [hcl, (rr_t hR hq).2.1]
        have := rr_to hx (t := q) (p := aTo a q) hw.2.1
        rw [set2_set2] at this
        have e : set2 a 4 q (aTo a q) = a := set2_id a 4 q
        rw [e] at this; exact this
      | succ k ih =>
        intro i x σ hi hx
        refine ⟨fun h => ?_, fun _ => ⟨hqi, ?_⟩⟩
        · rw [rr_P' (a := a) hx rfl, z_le (by omega) (by omega)] at h; omega
        · rintro σ6 rfl
          rw [hcl]
          have hx2 := rr_to hx (t := q) (p := i) (by show i < nP a; omega)
          rw [set2_set2] at hx2
          refine ⟨_, hx2, fun r10 σ9 h9 => ⟨fun y => y = if soB (set2 a 4 q i) = true then nI (2 ^ i) else 0, ⟨fun e => ?_, fun e => ?_⟩, fun b hb => ?_⟩⟩
          · rw [h9.1, b2i_0] at e; exact (if_neg e).symm
          · rw [h9.1, b2i_0, Classical.not_not] at e
            rw [sh1 i (by omega)]; exact (if_pos e).symm
          · rw [mask_s (fun p => soB (set2 a 4 q p)) i b hb, nI_1]
            exact ih (i + 1) i σ9 (by omega) (h9.2.rr hx2)
    refine ⟨nP a + 1, key (nP a) 0 (aTo a q) σ0 (by omega) ?_⟩
    have e : set2 a 4 q (aTo a q) = a := set2_id a 4 q
    rw [e]; exact hR
  · rw [noT hR] at h
    exact ⟨by unfold res_comes; rw [if_pos h], hR⟩
theorem sp_X9_paid : Sp_X9_paid := by
  intro a σ0 hp
  have hR : RR a σ0 := hp
  have hl := rr_le hR
  refine ⟨fun h => ?_, fun h => ?_⟩
  · rw [rr_P hR, z0 (by omega)] at h
    have eres : res_paid a = nI (maskB (fun p => soB (setN a 1 (aPaid a ||| 2 ^ p))) (nP a)) := by unfold res_paid; rw [if_neg h]
    have key : ∀ k i x (σ : S_), i + k = nP a → RR (setN a 1 x) σ → vl_X9_paid_19 σ0 (post_X9_paid a σ0) (k + 1) (nI (maskB (fun p => soB (setN a 1 (aPaid a ||| 2 ^ p))) i)) (nI i) σ := by
      intro k
      induction k with
      | zero =>
        intro i x σ hi hx
        have : i = nP a := by omega
        subst this
        refine ⟨fun _ => ?_, fun h => absurd (by rw [rr_P' (a := a) hx rfl, z_le (by omega) (by omega)]; omega) h⟩
        rintro σ4 rfl
        refine ⟨eres.symm, ?_⟩
        rw [rr_paid hR]
        have := rr_setP hx (m := aPaid a) hR.1.2.2.1
        rw [setN_setN, setN_id a 1 (aPaid a) rfl] at this; exact this
      | succ k ih =>
        intro i x σ hi hx
        refine ⟨fun h => ?_, fun _ => ?_⟩
        · rw [rr_P' (a := a) hx rfl, z_le (by omega) (by omega)] at h; omega
        · rintro σ6 rfl
          rw [rr_paid hR, sh1 i (by omega), nI_or]
          have hx2 := rr_setP hx (m := aPaid a ||| 2 ^ i) (Nat.or_lt_two_pow hR.1.2.2.1 (Nat.pow_lt_pow_right (by decide) (show i < nP a by omega)))
          rw [setN_setN] at hx2
          refine ⟨_, hx2, fun r10 σ9 h9 => ⟨fun y => y = if soB (setN a 1 (aPaid a ||| 2 ^ i)) = true then nI (2 ^ i) else 0, ⟨fun e => ?_, fun e => ?_⟩, fun b hb => ?_⟩⟩
          · rw [h9.1, b2i_0] at e; exact (if_neg e).symm
          · rw [h9.1, b2i_0, Classical.not_not] at e
            exact (if_pos e).symm
          · rw [mask_s (fun p => soB (setN a 1 (aPaid a ||| 2 ^ p))) i b hb, nI_1]
            exact ih (i + 1) _ σ9 (by omega) (h9.2.rr hx2)
    refine ⟨nP a + 1, key (nP a) 0 (aPaid a) σ0 (by omega) ?_⟩
    rw [setN_id a 1 (aPaid a) rfl]; exact hR
  · rw [rr_P hR, z0 (by omega)] at h
    exact ⟨by unfold res_paid; rw [if_pos h], hR⟩
theorem sp_X9_laws : Sp_X9_laws := by
  intro a σ0 hp
  have hR : RR a σ0 := hp
  have hl := rr_le hR
  have hw3 : aLaw a < 3 := hR.1.2.2.2.1
  refine ⟨fun h => ?_, fun h => ?_⟩
  · rw [rr_P hR, z0 (by omega)] at h
    have eres : res_laws a = nI (maskB (fun v => soB (setN a 2 v)) 3) := by unfold res_laws; rw [if_neg h]
    have key : ∀ k i x (σ : S_), i + k = 3 → RR (setN a 2 x) σ → vl_X9_laws_19 σ0 (post_X9_laws a σ0) (k + 1) (nI (maskB (fun v => soB (setN a 2 v)) i)) (nI i) σ := by
      intro k
      induction k with
      | zero =>
        intro i x σ hi hx
        have : i = 3 := by omega
        subst this
        refine ⟨fun _ => ?_, fun h => absurd (by rw [lim3, z_le (by omega) (by omega)]; omega) h⟩
        rintro σ4 rfl
        refine ⟨eres.symm, ?_⟩
        rw [rr_law hR]
        have := rr_setL hx (v := aLaw a) hw3 h
        rw [setN_setN, setN_id a 2 (aLaw a) rfl] at this; exact this
      | succ k ih =>
        intro i x σ hi hx
        refine ⟨fun h => ?_, fun _ => ?_⟩
        · rw [lim3, z_le (by omega) (by omega)] at h; omega
        · rintro σ6 rfl
          have hx2 := rr_setL hx (v := i) (by omega) h
          rw [setN_setN] at hx2
          refine ⟨_, hx2, fun r10 σ9 h9 => ⟨fun y => y = if soB (setN a 2 i) = true then nI (2 ^ i) else 0, ⟨fun e => ?_, fun e => ?_⟩, fun b hb => ?_⟩⟩
          · rw [h9.1, b2i_0] at e; exact (if_neg e).symm
          · rw [h9.1, b2i_0, Classical.not_not] at e
            rw [sh1 i (by omega)]; exact (if_pos e).symm
          · rw [mask_s (fun v => soB (setN a 2 v)) i b hb, nI_1]
            exact ih (i + 1) i σ9 (by omega) (h9.2.rr hx2)
    refine ⟨3 + 1, key 3 0 (aLaw a) σ0 (by omega) ?_⟩
    rw [setN_id a 2 (aLaw a) rfl]; exact hR
  · rw [rr_P hR, z0 (by omega)] at h
    exact ⟨by unfold res_laws; rw [if_pos h], hR⟩
