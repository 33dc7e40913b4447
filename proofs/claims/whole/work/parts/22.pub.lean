theorem back_is {j C : Nat} {k r : Int32} {σ0 σ : S_} (e : rdI σ0 (5 + j) = nI C) (hC : C ≤ 8) (h : post_X3_takeBack j k σ0 r σ) : (¬ (0 ≤ k ∧ k ≤ nI C) ∧ r = -2 ∧ σ = σ0) ∨ (∃ q : Nat, q ≤ C ∧ k = nI q ∧ (0 ≤ k ∧ k ≤ nI C) ∧ toN k = q ∧ r = nI (C - q) ∧ σ = wrI σ0 (5 + j) (nI (C - q))) := by
  unfold post_X3_takeBack at h
  rw [e] at h
  by_cases c : k < 0 ∨ nI C < k
  · rw [if_pos c] at h
    refine Or.inl ⟨fun z => c.elim (Int32.not_lt.mpr z.1) (Int32.not_lt.mpr z.2), h.1, h.2⟩
  · rw [if_neg c] at h
    have h0 : ¬ k < 0 := fun z => c (Or.inl z)
    have h1 : ¬ nI C < k := fun z => c (Or.inr z)
    obtain ⟨q, hq, rfl⟩ := nI_of h0
    have h2 : q ≤ C := by
      rw [z_lt (by omega) hq] at h1; omega
    rw [pk_sub h2] at h
    exact Or.inr ⟨q, h2, rfl, ⟨Int32.not_lt.mp h0, Int32.not_lt.mp h1⟩, z_cl (by omega), h.1, h.2⟩
theorem sp_X8_unmove : Sp_X8_unmove := by
  intro k a σ hp
  have hC : RC a σ := hp
  have hl := rc_le hC.1
  intro r σ1 h
  have e0 : rdI σ (5 + 1) = nI (nM a) := rc_M hC.1
  rcases back_is e0 (by omega) h with ⟨h1, h2, h3⟩ | ⟨q, hq, hk, h1, h4, h2, h3⟩
  · exact ⟨by unfold res_unmove; rw [if_pos h1]; exact h2, by unfold nxt_unmove; rw [if_pos h1, h3]; exact hC⟩
  · refine ⟨by unfold res_unmove; rw [if_neg (fun z => z h1), h4]; exact h2, ?_⟩
    unfold nxt_unmove
    rw [if_neg (fun z => z h1), h4, h3]
    obtain ⟨⟨⟨w1, w2, w3, w4, w5, w6, w7, w8, w9, w10, w11, w12, w13, w14, w15, w16⟩, e2, e5, e6, e7, e8, ht, hm, hn, hr, hH, hpp⟩, g3, g4, g1⟩ := hC
    have w12' : ∀ k, k < nM a - q → aMof a k < nP a ∧ aMto a k < 3 ∧ aMin a k < 40 := fun k hk => w12 k (by omega)
    have hm' : ∀ k, k < nM a - q → rdA σ 5 (4 * k) = nI (aMof a k) ∧ rdA σ 5 (4 * k + 1) = nI (aMin a k) ∧ rdA σ 5 (4 * k + 2) = nI (aMto a k) := fun k hk => hm k (by omega)
    have w6' : nM a - q ≤ 8 := by omega
    have w16' : nP a = 0 → nT a = 0 ∧ nM a - q = 0 ∧ nN a = 0 ∧ nR a = 0 ∧ aLaw a = 0 := fun z => ⟨(w16 z).1, by have := (w16 z).2.1; omega, (w16 z).2.2⟩
    exact ⟨⟨⟨w1, w2, w3, w4, w5, w6', w7, w8, w9, w10, w11, w12', w13, w14, w15, w16'⟩, e2, e5, rfl, e7, e8, ht, hm', hn, hr, hH, hpp⟩, g3, g4, rc1_mono g1 (fun k hk => rI_ne _ _ (by omega)) (fun _ _ => rfl) rfl rfl (fun _ => rfl) (fun _ => rfl) (fun _ _ => rfl)⟩
theorem sp_X8_back : Sp_X8_back := by
  intro k a σ hp
  have hC : RC a σ := hp
  have hl := rc_le hC.1
  intro r σ1 h
  have e0 : rdI σ (5 + 3) = nI (nR a) := rc_R hC.1
  rcases back_is e0 (by omega) h with ⟨h1, h2, h3⟩ | ⟨q, hq, hk, h1, h4, h2, h3⟩
  · exact ⟨by unfold res_back; rw [if_pos h1]; exact h2, by unfold nxt_back; rw [if_pos h1, h3]; exact hC⟩
  · refine ⟨by unfold res_back; rw [if_neg (fun z => z h1), h4]; exact h2, ?_⟩
    unfold nxt_back
    rw [if_neg (fun z => z h1), h4, h3]
    obtain ⟨⟨⟨w1, w2, w3, w4, w5, w6, w7, w8, w9, w10, w11, w12, w13, w14, w15, w16⟩, e2, e5, e6, e7, e8, ht, hm, hn, hr, hH, hpp⟩, g3, g4, g1⟩ := hC
    have w14' : ∀ k, k < nR a - q → aRof a k < nP a ∧ aRt a k < nT a ∧ aRin a k < 40 ∧ aRdid a k ≤ 1 := fun k hk => w14 k (by omega)
    have hr' : ∀ k, k < nR a - q → rdA σ 7 (4 * k) = nI (aRof a k) ∧ rdA σ 7 (4 * k + 1) = nI (aRin a k) ∧ rdA σ 7 (4 * k + 2) = nI (aRt a k) ∧ rdA σ 7 (4 * k + 3) = nI (aRdid a k) := fun k hk => hr k (by omega)
    have w8' : nR a - q ≤ 8 := by omega
    have w16' : nP a = 0 → nT a = 0 ∧ nM a = 0 ∧ nN a = 0 ∧ nR a - q = 0 ∧ aLaw a = 0 := fun z => ⟨(w16 z).1, (w16 z).2.1, (w16 z).2.2.1, by have := (w16 z).2.2.2.1; omega, (w16 z).2.2.2.2⟩
    exact ⟨⟨⟨w1, w2, w3, w4, w5, w6, w7, w8', w9, w10, w11, w12, w13, w14', w15, w16'⟩, e2, e5, e6, e7, rfl, ht, hm, hn, hr', hH, hpp⟩, g3, g4, rc1_mono g1 (fun k hk => rI_ne _ _ (by omega)) (fun _ _ => rfl) rfl rfl (fun _ => rfl) (fun _ => rfl) (fun _ _ => rfl)⟩
theorem keptL_c {P Q : Nat → Bool} {n : Nat} (h : ∀ i, i < n → P i = Q i) : keptL P n = keptL Q n := by
  induction n with
  | zero => rfl
  | succ n ih => rw [keptL, keptL, h n (by omega), ih (fun i hi => h i (by omega))]
theorem keptL_mem (P : Nat → Bool) : ∀ n i, i < (keptL P n).length → (keptL P n).getD i 0 < n ∧ P ((keptL P n).getD i 0) = true := by
  intro n
  induction n with
  | zero => intro i hi; exact absurd hi (Nat.not_lt_zero i)
  | succ n ih =>
    intro i hi
    rw [keptL] at hi ⊢
    split at hi
    · next hP =>
      rw [if_pos hP]
      rw [List.length_append] at hi
      by_cases c : i < (keptL P n).length
      · rw [List.getD_eq_getElem?_getD, List.getElem?_append_left c, ← List.getD_eq_getElem?_getD]
        have := ih i c
        exact ⟨by omega, this.2⟩
      · have e : i = (keptL P n).length := by
          have : ([n] : List Nat).length = 1 := rfl
          omega
        rw [List.getD_eq_getElem?_getD, e, List.getElem?_append_right (Nat.le_refl _), Nat.sub_self]
        exact ⟨Nat.lt_succ_self n, hP⟩
    · next hP =>
      rw [if_neg hP]
      have := ih i hi
      exact ⟨by omega, this.2⟩
theorem keptL_len (P : Nat → Bool) : ∀ n, (keptL P n).length ≤ n := by
  intro n
  induction n with
  | zero => exact Nat.le_refl 0
  | succ n ih =>
    rw [keptL]; split
    · rw [List.length_append]; exact Nat.succ_le_succ ih
    · omega
theorem rc_undo {a : AS} {σ0 σ1 σ : S_} {left : Nat} (hC : RC a σ0) (hle : left ≤ nT a) (h1 : σ1 = wrI σ0 5 (nI left)) (h : post_X3_keepBelow 3 2 (nI left) 2 σ1 σ) : RC (undoA a left) σ := by
  have hl := rc_le hC.1
  obtain ⟨⟨⟨w1, w2, w3, w4, w5, w6, w7, w8, w9, w10, w11, w12, w13, w14, w15, w16⟩, e2, e5, e6, e7, e8, ht, hm, hn, hr, hH, hpp⟩, g3, g4, g1⟩ := hC
  subst h1
  obtain ⟨C, hC8, eC, hcnt, hI, hA, h2, hrows⟩ := h
  have eC' : rdI σ0 8 = nI C := eC
  have hl8 : limN 3 = 8 := rfl
  rw [e8, z_eq (by omega) (by omega)] at eC'
  subst eC'
  have ek : keptL (keepP 3 (nI left) 2 (wrI σ0 5 (nI left))) (nR a) = kepR a left := by
    unfold kepR
    apply keptL_c
    intro i hi
    unfold keepP
    rw [rA_wI, show 4 + 3 = 7 from rfl, (hr i hi).2.2.1]
    apply decide_eq_decide.mpr
    rw [z_lt (by have := (w14 i hi).2.1; omega) (by omega)]
  rw [ek] at hcnt hrows
  have hlen := keptL_len (fun x => decide (aRt a x < left)) (nR a)
  have hmem := keptL_mem (fun x => decide (aRt a x < left)) (nR a)
  generalize ha' : undoA a left = a'
  have f1 : ∀ k, aRof a' k = aRof a ((kepR a left).getD k 0) := by rw [← ha']; exact fun _ => rfl
  have f2 : ∀ k, aRt a' k = aRt a ((kepR a left).getD k 0) := by rw [← ha']; exact fun _ => rfl
  have f3 : ∀ k, aRin a' k = aRin a ((kepR a left).getD k 0) := by rw [← ha']; exact fun _ => rfl
  have f4 : ∀ k, aRdid a' k = aRdid a ((kepR a left).getD k 0) := by rw [← ha']; exact fun _ => rfl
  have fR : nR a' = (kepR a left).length := by rw [← ha']; rfl
  have fT : nT a' = left := by rw [← ha']; rfl
  have fP : nP a' = nP a := by rw [← ha']; rfl
  have w11' : ∀ t, t < nT a' → aDeed a' t < 6 ∧ aTo a' t < nP a' ∧ aTin a' t < 40 ∧ aPar a' t ≤ 1 := by
    intro t htt; rw [fT] at htt; rw [← ha']; exact w11 t (by omega)
  have w14' : ∀ k, k < nR a' → aRof a' k < nP a' ∧ aRt a' k < nT a' ∧ aRin a' k < 40 ∧ aRdid a' k ≤ 1 := by
    intro k hk
    rw [fR] at hk
    obtain ⟨m1, m2⟩ := hmem k hk
    rw [f1, f2, f3, f4, fP, fT]
    have q := w14 _ m1
    exact ⟨q.1, of_decide_eq_true m2, q.2.2.1, q.2.2.2⟩
  have hr' : ∀ k, k < nR a' → rdA σ 7 (4 * k) = nI (aRof a' k) ∧ rdA σ 7 (4 * k + 1) = nI (aRin a' k) ∧ rdA σ 7 (4 * k + 2) = nI (aRt a' k) ∧ rdA σ 7 (4 * k + 3) = nI (aRdid a' k) := by
    intro k hk
    rw [fR] at hk
    obtain ⟨m1, m2⟩ := hmem k hk
    rw [f1, f2, f3, f4]
    have q := hr _ m1
    exact ⟨(hrows k 0 hk (by decide)).trans q.1, (hrows k 1 hk (by decide)).trans q.2.1, (hrows k 2 hk (by decide)).trans q.2.2.1, (hrows k 3 hk (by decide)).trans q.2.2.2⟩
  have ht' : ∀ t, t < nT a' → rdA σ 4 (4 * t) = nI (aTo a' t) ∧ rdA σ 4 (4 * t + 1) = nI (aTin a' t) ∧ rdA σ 4 (4 * t + 2) = nI (aDeed a' t) ∧ rdA σ 4 (4 * t + 3) = nI (aPar a' t) := by
    intro t htt; rw [fT] at htt; rw [← ha', hA 4 (by omega)]; exact ht t (by omega)
  have hm' : ∀ k, k < nM a → rdA σ 5 (4 * k) = nI (aMof a k) ∧ rdA σ 5 (4 * k + 1) = nI (aMin a k) ∧ rdA σ 5 (4 * k + 2) = nI (aMto a k) := by
    intro k hk; rw [hA 5 (by omega)]; exact hm k hk
  have hn' : ∀ k, k < nN a → rdA σ 6 (4 * k) = nI (aN1 a k) ∧ rdA σ 6 (4 * k + 1) = nI (aN2 a k) := by
    intro k hk; rw [hA 6 (by omega)]; exact hn k hk
  have q5 : nT a' ≤ 6 := by omega
  have q8 : nR a' ≤ 8 := by rw [fR]; exact Nat.le_trans hlen (by omega)
  have q16 : nP a' = 0 → nT a' = 0 ∧ nM a' = 0 ∧ nN a' = 0 ∧ nR a' = 0 ∧ aLaw a' = 0 := by
    intro z; rw [fP] at z
    have := w16 z
    rw [fT, fR]
    have hlen' : (kepR a left).length ≤ nR a := hlen
    refine ⟨by omega, ?_, ?_, by omega, ?_⟩ <;> rw [← ha']
    · exact this.2.1
    · exact this.2.2.1
    · exact this.2.2.2.2
  have k5 : rdI σ 5 = nI (nT a') := by rw [hI 5 (by omega), fT]; rfl
  have k8 : rdI σ 8 = nI (nR a') := by rw [fR]; exact hcnt
  have kI : ∀ k, k ≠ 8 → k ≠ 5 → rdI σ k = rdI σ0 k := fun k h8 h5 => (hI k h8).trans (rI_ne _ _ h5)
  have kH : nH σ = nP a := by unfold nH; rw [h2]; exact hH
  have kpp : ∀ p, p < nP a → pg σ p = some (hget σ p).1 ∧ (hget σ p).2.1 = kcl (aKind a p) ∧ (hget σ p).2.2.1 = nI p ∧ (hget σ p).2.2.2.1 = nI (aMinds a p) ∧ (hget σ p).2.2.2.2 = nI (aHome a p) := by
    intro p hq; rw [hget_same h2]; unfold pg; rw [h2]; exact hpp p hq
  have k1 : RC1 a' σ := rc1_mono g1 (fun k hk => kI k (by omega) (by omega)) (fun j hj => hA j (by omega)) (by rw [← ha']; rfl) (by rw [← ha']; rfl) (by rw [← ha']; exact fun _ => rfl) (by rw [← ha']; exact fun _ => rfl) (by rw [← ha']; exact fun _ _ => rfl)
  subst ha'
  exact ⟨⟨⟨w1, w2, w3, w4, q5, w6, w7, q8, w9, w10, w11', w12, w13, w14', w15, q16⟩, (kI 2 (by decide) (by decide)).trans e2, k5, (kI 6 (by decide) (by decide)).trans e6, (kI 7 (by decide) (by decide)).trans e7, k8, ht', hm', hn', hr', kH, kpp⟩, (kI 3 (by decide) (by decide)).trans g3, (kI 4 (by decide) (by decide)).trans g4, k1⟩
theorem sp_X8_undo : Sp_X8_undo := by
  intro k a σ hp
  have hC : RC a σ := hp
  have hl := rc_le hC.1
  intro r σ1 h
  have e0 : rdI σ (5 + 0) = nI (nT a) := rc_T hC.1
  rcases back_is e0 (by omega) h with ⟨h1, h2, h3⟩ | ⟨q, hq, hk, h1, h4, h2, h3⟩
  · refine ⟨fun _ => ?_, fun z => absurd h2 z⟩
    exact ⟨by unfold res_undo; rw [if_pos h1]; exact h2, by unfold nxt_undo; rw [if_pos h1, h3]; exact hC⟩
  · have n2 : ∀ m, m < 100 → ¬ nI m = (-2 : Int32) := by decide +kernel
    refine ⟨fun z => absurd (h2.symm.trans z) (n2 _ (by omega)), fun _ => ⟨2, ⟨?_, rfl, by decide⟩, fun σ4 hk4 => ?_⟩⟩
    · rw [h3]; exact ⟨by decide, nR a, by show _ ≤ 8; omega, (rc_R hC.1 : rdI σ 8 = nI (nR a))⟩
    · refine ⟨by unfold res_undo; rw [if_neg (fun z => z h1), h4]; exact h2, ?_⟩
      unfold nxt_undo
      rw [if_neg (fun z => z h1), h4]
      rw [h2] at hk4
      exact rc_undo hC (by omega) h3 hk4
theorem sp_X8_law : Sp_X8_law := by
  intro v a σ hp
  have hC : RC a σ := hp
  have hl := rc_le hC.1
  refine ⟨fun h => ⟨fun h2 => ?_, fun h2 => ?_⟩, fun h => ?_⟩
  · rw [b2i_0, Classical.not_not] at h
    rw [b2i_0, nP0 hC.1] at h2
    rintro σ1 rfl
    have k1 : ¬ ¬ inR v 3 := fun z => z h
    obtain ⟨q, hq, rfl⟩ := (inR_iff (n := 3) (by decide)).mp h
    have t1 : toN (nI q) = q := z_cl (by omega)
    refine ⟨by unfold res_law; rw [if_neg k1, if_neg h2]; exact hC.2.2.1, ?_⟩
    unfold nxt_law
    rw [if_neg k1, if_neg h2, t1]
    obtain ⟨⟨⟨w1, w2, w3, w4, w5, w6, w7, w8, w9, w10, w11, w12, w13, w14, w15, w16⟩, e2, e5, e6, e7, e8, ht, hm, hn, hr, hH, hpp⟩, g3, g4, g1⟩ := hC
    exact ⟨⟨⟨w1, w2, w3, hq, w5, w6, w7, w8, w9, w10, w11, w12, w13, w14, w15, fun z => absurd z h2⟩, e2, e5, e6, e7, e8, ht, hm, hn, hr, hH, hpp⟩, g3, rI_same _ _ _, rc1_mono g1 (fun k hk => rI_ne _ _ (by omega)) (fun _ _ => rfl) rfl rfl (fun _ => rfl) (fun _ => rfl) (fun _ _ => rfl)⟩
  · rw [b2i_0, Classical.not_not] at h h2
    rw [nP0 hC.1] at h2
    have k1 : ¬ ¬ inR v 3 := fun z => z h
    exact ⟨by unfold res_law; rw [if_neg k1, if_pos h2], by unfold nxt_law; rw [if_neg k1, if_pos h2]; exact hC⟩
  · rw [b2i_0] at h
    have h : ¬ inR v 3 := h
    exact ⟨by unfold res_law; rw [if_pos h], by unfold nxt_law; rw [if_pos h]; exact hC⟩
theorem xor_s : ∀ m, m < 64 → ∀ p, p < 6 → (nI m ^^^ ((1 : Int32) <<< (nI p &&& 31))) = nI (m ^^^ 2 ^ p) := by decide +kernel
theorem paid64 {a : AS} (hw : WF a) : aPaid a < 64 := Nat.lt_of_lt_of_le hw.2.2.1 (Nat.pow_le_pow_right (by decide) hw.2.1)
theorem paid_is {a : AS} (hw : WF a) {x : Int32} (e : x = nI (aPaid a)) {p : Nat} (hp : p < nP a) : fn_X8_isIn (nI p) x = b2i ((aPaid a).testBit p = true) := by
  have h6 : nP a ≤ 6 := hw.2.1
  rw [e]; apply b2i_c
  rw [bit_s _ (paid64 hw) p (by omega)]
theorem sp_X8_pay : Sp_X8_pay := by
  intro p is a σ hp
  obtain ⟨hC, his⟩ := hp
  have hl := rc_le hC.1
  refine ⟨rc_pe hC.1, fun hn => ?_, fun q hq => ⟨trivial, fun h => ?_, fun h => ?_⟩⟩
  · have := pe_no hC.1 hn
    exact ⟨by unfold res_pay; rw [if_pos this], by unfold nxt_pay; rw [if_pos this]; exact hC⟩
  · obtain ⟨q1, rfl, q3, q4⟩ := pe_so hC.1 hq
    have k1 : ¬ ¬ inR (nI q) (nP a) := fun z => z q1
    rw [paid_is hC.1.1 hC.2.1 q3] at h
    rintro σ3 rfl
    refine ⟨by unfold res_pay; rw [if_neg k1, q4, if_neg h], ?_⟩
    unfold nxt_pay
    rw [if_neg k1, q4, if_neg h, hC.2.1, xor_s _ (paid64 hC.1.1) q (by omega)]
    obtain ⟨⟨⟨w1, w2, w3, w4, w5, w6, w7, w8, w9, w10, w11, w12, w13, w14, w15, w16⟩, e2, e5, e6, e7, e8, ht, hm, hn, hr, hH, hpp⟩, g3, g4, g1⟩ := hC
    have hx : aPaid a ^^^ 2 ^ q < 2 ^ nP a := Nat.xor_lt_two_pow w3 (Nat.pow_lt_pow_right (by decide) q3)
    exact ⟨⟨⟨w1, w2, hx, w4, w5, w6, w7, w8, w9, w10, w11, w12, w13, w14, w15, w16⟩, e2, e5, e6, e7, e8, ht, hm, hn, hr, hH, hpp⟩, rI_same _ _ _, g4, rc1_mono g1 (fun k hk => rI_ne _ _ (by omega)) (fun _ _ => rfl) rfl rfl (fun _ => rfl) (fun _ => rfl) (fun _ _ => rfl)⟩
  · obtain ⟨q1, rfl, q3, q4⟩ := pe_so hC.1 hq
    have k1 : ¬ ¬ inR (nI q) (nP a) := fun z => z q1
    rw [paid_is hC.1.1 hC.2.1 q3] at h
    exact ⟨by unfold res_pay; rw [if_neg k1, q4, if_pos h], by unfold nxt_pay; rw [if_neg k1, q4, if_pos h]; exact hC⟩
theorem sp_X8_parody : Sp_X8_parody := by
  intro t is a σ hp
  obtain ⟨hC, his⟩ := hp
  have hl := rc_le hC.1
  have e0 : rdI σ (5 + 0) = nI (nT a) := rc_T hC.1
  have ehas : fn_X3_has 0 t σ = b2i (inR t (nT a)) := by
    apply b2i_c; rw [e0]
  refine ⟨fun h => ⟨fun x => x = is, ⟨fun z => z.symm, fun z => his.elim (fun y => absurd y z) (fun y => y.symm)⟩, fun x hx => ?_⟩, fun h => ?_⟩
  · rw [show x = is from hx]
    rw [ehas, b2i_0, Classical.not_not] at h
    have k1 : ¬ ¬ inR t (nT a) := fun z => z h
    obtain ⟨q, hq, rfl⟩ := (inR_iff (by omega)).mp h
    have t1 : toN (nI q) = q := z_cl (by omega)
    rw [(rc_t hC.1 hq).2.2.2]
    refine ⟨rc_l0 hC.1, fun h2 => ⟨rc_l0 hC.1, fun σ5 h5 => ?_⟩, fun h2 => ?_⟩
    · have h5' := set_is (c := 3) e0 (by omega) hq (by decide) h5
      refine ⟨by unfold res_parody; rw [if_neg k1, t1, if_neg h2], ?_⟩
      unfold nxt_parody
      rw [if_neg k1, t1, h5']
      obtain ⟨d, hd, rfl⟩ : ∃ d : Nat, d ≤ 1 ∧ is = nI d := his.elim (fun y => ⟨0, by decide, y⟩) (fun y => ⟨1, by decide, y⟩)
      rw [show toN (nI d) = d from z_cl (by omega)]
      obtain ⟨⟨⟨w1, w2, w3, w4, w5, w6, w7, w8, w9, w10, w11, w12, w13, w14, w15, w16⟩, e2, e5, e6, e7, e8, ht, hm, hn, hr, hH, hpp⟩, g3, g4, g1⟩ := hC
      have fp : ∀ x, aPar (set2 a 6 q d) x = if x = q then d else aPar a x := fun _ => rfl
      refine ⟨⟨⟨w1, w2, w3, w4, w5, w6, w7, w8, w9, w10, fun x hx => ?_, w12, w13, w14, w15, w16⟩, e2, e5, e6, e7, e8, fun x hx => ?_, ?_, ?_, ?_, hH, hpp⟩, g3, g4, rc1_mono g1 (fun _ _ => rfl) (fun j hj => rA_w2n _ _ _ _ _ (by omega)) rfl rfl (fun _ => rfl) (fun _ => rfl) (fun _ _ => rfl)⟩
      · obtain ⟨v1, v2, v3, v4⟩ := w11 x hx
        refine ⟨v1, v2, v3, ?_⟩
        rw [fp]; split
        · exact hd
        · exact v4
      · obtain ⟨v1, v2, v3, v4⟩ := ht x hx
        rw [fp]
        have b := fun i => rA_w2s σ (4 + 0) (4 * q + 3) (nI d) i
        refine ⟨(b _).trans ?_, (b _).trans ?_, (b _).trans ?_, (b _).trans ?_⟩
        · rw [if_neg (by omega)]; exact v1
        · rw [if_neg (by omega)]; exact v2
        · rw [if_neg (by omega)]; exact v3
        · by_cases c : x = q
          · rw [if_pos (by omega), if_pos c]
          · rw [if_neg (by omega), if_neg c]; exact v4
      · rw [rA_w2n _ _ _ _ _ (show (5 : Nat) ≠ 4 + 0 by decide)]; exact hm
      · rw [rA_w2n _ _ _ _ _ (show (6 : Nat) ≠ 4 + 0 by decide)]; exact hn
      · rw [rA_w2n _ _ _ _ _ (show (7 : Nat) ≠ 4 + 0 by decide)]; exact hr
    · refine ⟨by unfold res_parody; rw [if_neg k1, t1, if_pos h2], ?_⟩
      unfold nxt_parody
      rw [if_neg k1, t1, ← h2, show toN (nI (aPar a q)) = aPar a q from z_cl (by have := (wf_t hC.1.1 hq).2.2.2; omega)]
      have hid : set2 a 6 q (aPar a q) = a := by
        have f0 : va_up (a.2.1 6) q (aPar a q) = a.2.1 6 := by
          funext x; unfold va_up; by_cases c : x = q
          · rw [if_pos c, c]; rfl
          · rw [if_neg c]
        have f1 : va_up a.2.1 6 (a.2.1 6) = a.2.1 := by
          funext x; unfold va_up; by_cases c : x = 6
          · rw [if_pos c, c]
          · rw [if_neg c]
        show (a.1, va_up a.2.1 6 (va_up (a.2.1 6) q (aPar a q)), a.2.2) = a
        rw [f0, f1]
      rw [hid]; exact hC
  · rw [ehas, b2i_0] at h
    exact ⟨by unfold res_parody; rw [if_pos h], by unfold nxt_parody; rw [if_pos h]; exact hC⟩
