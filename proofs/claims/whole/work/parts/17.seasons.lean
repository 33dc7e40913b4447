theorem mv_facts (a : AS) (S : Nat) (r : RS) : ∀ n, (mvR a S r n).2 = r.2 := by
  intro n
  induction n with
  | zero => rfl
  | succ n ih => rw [mvR]; split <;> exact ih
theorem sp_X4_makeMoves : Sp_X4_makeMoves := by
  intro a r T σ0 hp
  obtain ⟨hC, hR, h1T⟩ := hp
  have hl := rc_le hC
  have key : ∀ k i (σ : S_), i + k = nM a → sameB σ0 σ → RunC a (mvR a (T - 1) r i) T T σ → vl_X4_makeMoves_2 (post_X4_makeMoves a r T σ0) (k + 1) (nI i) σ := by
    intro k
    induction k with
    | zero =>
      intro i σ hi hs hR'
      refine ⟨fun _ => ?_, fun h => absurd (by rw [rc_M (hs.rc0 hC), z_le (by omega) (by omega)]; omega) h⟩
      have : i = nM a := by omega
      exact ⟨hs, this ▸ hR'⟩
    | succ k ih =>
      intro i σ hi hs hR'
      have hC' := hs.rc0 hC
      have hR2 := hR'
      obtain ⟨hT, e11, e9, e10, hp, hpt, hht⟩ := hR2
      have eS : rdI σ 11 = nI (T - 1) := m1_nI e11 h1T
      have hw := wf_m hC.1 (k := i) (by omega)
      obtain ⟨a0, a1, a2⟩ := rc_m hC' (k := i) (by omega)
      have hst : mvR a (T - 1) r (i + 1) = if aMin a i = T - 1 then (va_up (mvR a (T - 1) r i).1 (aMof a i) (aMto a i), (mvR a (T - 1) r i).2) else mvR a (T - 1) r i := by rw [mvR]
      refine ⟨fun h => ?_, fun _ => ⟨rc_l1 hC', ⟨fun hne => ?_, fun he => ⟨rc_l1 hC', ⟨fun h => ?_, fun _ => ⟨rc_l1 hC', ?_, ?_⟩⟩⟩⟩⟩⟩
      · rw [rc_M hC', z_le (by omega) (by omega)] at h; omega
      · rw [a1, eS, z_eq (by omega) (by omega)] at hne
        rw [nI_1]
        exact ih (i + 1) σ (by omega) hs (by rw [hst, if_neg hne]; exact hR')
      · rw [a0, b2i_0] at h
        exact absurd (one_in (show (6 : Int32) = nI 6 from rfl) (by omega) (by decide)) h
      · rw [a0]; exact z_in (by omega) (by decide)
      · rw [a1, eS, z_eq (by omega) (by omega)] at he
        rintro σ3 rfl
        rw [a0, a2, z_cl (by omega), nI_1]
        refine ih (i + 1) _ (by omega) (hs.tr (sameB_w2 (by decide))) ?_
        rw [hst, if_pos he]
        refine ⟨hT, e11, e9, e10, fun p hq => ?_, fun p t hq ht => hpt p t hq ht, fun h t hh ht => hht h t hh ht⟩
        obtain ⟨b1, b2, b3, b4⟩ := hp p hq
        rw [rA_w2s]
        show (va_up (mvR a (T - 1) r i).1 (aMof a i) (aMto a i) p < 3 ∧ _ = nI (va_up (mvR a (T - 1) r i).1 (aMof a i) (aMto a i) p) ∧ _)
        unfold va_up
        by_cases e : p = aMof a i
        · rw [if_pos e, if_pos e]; exact ⟨hw.2.1, rfl, b3, b4⟩
        · rw [if_neg e, if_neg e]; exact ⟨b1, b2, b3, b4⟩
  exact ⟨nM a + 1, key (nM a) 0 σ0 (by omega) (rf_sameB _) hR⟩
theorem sp_X4_bringTales : Sp_X4_bringTales := by
  intro a r T σ0 hp
  obtain ⟨hC, hR, h1T⟩ := hp
  have hl := rc_le hC
  have key : ∀ k i (σ : S_), i + k = nT a → sameB σ0 σ → RunC a (brR a (T - 1) r i) T T σ → vl_X4_bringTales_2 (post_X4_bringTales a r T σ0) (k + 1) (nI i) σ := by
    intro k
    induction k with
    | zero =>
      intro i σ hi hs hR'
      refine ⟨fun _ => ?_, fun h => absurd (by rw [rc_T (hs.rc0 hC), z_le (by omega) (by omega)]; omega) h⟩
      have : i = nT a := by omega
      exact ⟨hs, this ▸ hR'⟩
    | succ k ih =>
      intro i σ hi hs hR'
      have hC' := hs.rc0 hC
      have eS : rdI σ 11 = nI (T - 1) := m1_nI hR'.2.1 h1T
      have hw := wf_t hC.1 (t := i) (by omega)
      obtain ⟨a0, a1, a2, a3⟩ := rc_t hC' (t := i) (by omega)
      have hst : brR a (T - 1) r (i + 1) = if aTin a i = T - 1 then hearR (brR a (T - 1) r i) (aTo a i) i (T - 1 + 1) else brR a (T - 1) r i := by rw [brR]
      have hT40 := hR'.1
      refine ⟨fun h => ?_, fun _ => ⟨rc_l0 hC', ⟨fun hne => ?_, fun he => ⟨rc_l0 hC', a, _, T, aTo a i, i, ⟨hC', hR', h1T, ⟨a0, by omega⟩, ⟨rfl, by omega⟩⟩, ?_⟩⟩⟩⟩
      · rw [rc_T hC', z_le (by omega) (by omega)] at h; omega
      · rw [a1, eS, z_eq (by omega) (by omega)] at hne
        rw [nI_1]
        exact ih (i + 1) σ (by omega) hs (by rw [hst, if_neg hne]; exact hR')
      · rw [a1, eS, z_eq (by omega) (by omega)] at he
        intro σ8 h8
        rw [nI_1]
        refine ih (i + 1) σ8 (by omega) (hs.tr h8.1) ?_
        rw [hst, if_pos he, show T - 1 + 1 = T by omega]
        exact h8.2.1
  exact ⟨nT a + 1, key (nT a) 0 σ0 (by omega) (rf_sameB _) hR⟩
def trR (a : AS) (T : Nat) (r : RS) : Nat → RS
  | 0 => r
  | h + 1 => tlR a T (trR a T r h) h
theorem sp_X4_pass : Sp_X4_pass := by
  intro a r S σ0 hp
  obtain ⟨hC, ⟨hT, e11, e9, e10, hp, hpt, hht⟩, hS⟩ := hp
  rintro σ1 rfl
  have s1 : sameB σ0 (wrI σ0 11 (rdI σ0 11 + 1)) := sameB_wI (by decide) (by decide)
  have R1 : RunC a r (S + 1) (S + 1 - 1) (wrI σ0 11 (rdI σ0 11 + 1)) := by
    refine ⟨by omega, by rw [rI_same, e11, nI_1], e9, e10, hp, fun p t hq ht => ⟨by have := (hpt p t hq ht).1; omega, (hpt p t hq ht).2⟩, fun h t hh ht => ⟨by have := (hht h t hh ht).1; omega, (hht h t hh ht).2⟩⟩
  refine ⟨a, r, S + 1, ⟨s1.rc0 hC, R1, by omega⟩, fun σ6 h6 => ?_⟩
  have s6 := s1.tr h6.1
  refine ⟨a, r, S + 1, ⟨s6.rc0 hC, h6.2, by omega⟩, fun σ10 h10 => ?_⟩
  have s10 := s6.tr h10.1
  refine ⟨a, _, S + 1, ⟨s10.rc0 hC, h10.2, by omega⟩, fun σ14 h14 => ?_⟩
  have s14 := s10.tr h14.1
  have R14 := h14.2
  rw [Nat.add_sub_cancel] at R14
  have key : ∀ k i (σ : S_), i + k = 3 → sameB σ0 σ → RunC a (trR a (S + 1) (brR a S (mvR a S r (nM a)) (nT a)) i) (S + 1) (S + 1) σ → NowC (trR a (S + 1) (brR a S (mvR a S r (nM a)) (nT a)) i) i σ → vl_X4_pass_24 (post_X4_pass a r S σ0) (k + 1) (nI i) σ := by
    intro k
    induction k with
    | zero =>
      intro i σ hi hs hR' hN
      have : i = 3 := by omega
      subst this
      refine ⟨fun _ => ⟨hs, hR', hN⟩, fun h => absurd (by rw [show (3 : Int32) = nI 3 from rfl, z_le (by omega) (by omega)]; omega) h⟩
    | succ k ih =>
      intro i σ hi hs hR' hN
      refine ⟨fun h => ?_, fun _ => ⟨a, _, S + 1, i, ⟨hs.rc0 hC, hR', by omega, ⟨rfl, by omega⟩, hN⟩, fun σ21 h21 => ?_⟩⟩
      · rw [show (3 : Int32) = nI 3 from rfl, z_le (by omega) (by omega)] at h; omega
      · rw [nI_1]
        exact ih (i + 1) σ21 (by omega) (hs.tr h21.1) h21.2.1 h21.2.2
  exact ⟨3 + 1, key 3 0 σ14 (by omega) s14 R14 (fun h hh => absurd hh (Nat.not_lt_zero h))⟩
theorem maskB_0 (f : Nat → Bool) {n : Nat} (h : ∀ i, i < n → f i = false) : maskB f n = 0 := by
  apply Nat.eq_of_testBit_eq; intro i; rw [maskB_bit]
  by_cases hi : i < n
  · rw [h i hi]; simp
  · simp [hi]
theorem sp_X4_begin : Sp_X4_begin := by
  intro paid law a σ0 hp
  obtain ⟨hC, rfl, rfl⟩ := hp
  have hl := rc_le hC
  rintro σ1 rfl σ3 rfl σ5 rfl
  have key : ∀ k i (σ : S_), i + k = nP a → sameB σ0 σ → rdI σ 11 = -1 → rdI σ 9 = nI (aPaid a) → rdI σ 10 = nI (aLaw a) → (∀ p, p < i → rdA σ 8 p = nI (aHome a p) ∧ rdA σ 9 p = nI (memA a p)) → vl_X4_begin_17 (post_X4_begin (nI (aPaid a)) (nI (aLaw a)) a σ0) (k + 1) (nI i) σ := by
    intro k
    induction k with
    | zero =>
      intro i σ hi hs h11 h9 h10 hb
      have : i = nP a := by omega
      subst this
      refine ⟨fun _ => ?_, fun h => absurd (by rw [rc_P (hs.rc0 hC), z_le (by omega) (by omega)]; omega) h⟩
      rintro σ9 rfl σ11 rfl
      refine ⟨(hs.tr (sameB_wA (by decide))).tr (sameB_wA (by decide)), by decide, ?_, h9, h10, fun p hq => ?_, fun p t hq ht => ⟨Nat.zero_le _, fun h => absurd h (Nat.lt_irrefl 0)⟩, fun h t hh ht => ⟨Nat.le_refl 0, ?_⟩⟩
      · show rdI σ 11 + 1 = _
        rw [h11]; rfl
      · refine ⟨(wf_p hC.1 hq).2.2.2, (hb p hq).1, (hb p hq).2, ?_⟩
        rw [maskB_0 _ (fun t ht => by unfold remB; apply decide_eq_false; intro q; exact absurd q.1 (Nat.lt_irrefl 0))]
        rw [rA_wA, if_neg (by decide), rA_wA, if_pos rfl]
        show (if p < 6 then (0 : Int32) else _) = _
        rw [if_pos (by omega)]; rfl
      · rw [rA_wA, if_pos rfl]
        show (if 6 * h + t < 18 then (-1 : Int32) else _) + 1 = _
        rw [if_pos (by omega)]
        show (-1 : Int32) + 1 = nI 0
        decide
    | succ k ih =>
      intro i σ hi hs h11 h9 h10 hb
      have hC' := hs.rc0 hC
      have hip : i < nP a := by omega
      have hpe : fn_X6_person (nI i) σ = some i := by
        unfold fn_X6_person
        rw [if_pos (one_in (rc_P hC') hip (by omega))]
        show some (Int32.toNatClampNeg (nI i)) = some i
        rw [z_cl (by omega)]
      obtain ⟨p1, p2, p3, p4, p5⟩ := rc_p hC' hip
      refine ⟨fun h => ?_, fun _ => ⟨rc_pe hC', ⟨fun h => ?_, fun j13 h => ?_⟩⟩⟩
      · rw [rc_P hC', z_le (by omega) (by omega)] at h; omega
      · rw [hpe] at h; cases h
      · rw [hpe] at h
        cases h
        refine ⟨trivial, ⟨by rw [rc_H hC']; exact hip, by rw [p2]; exact kcl_isC _⟩, z_in (by omega) (by decide), ?_⟩
        rintro σ20 rfl
        refine ⟨rfl, ⟨by show i < nH σ; rw [rc_H hC']; exact hip, by rw [p2]; exact kcl_isC _⟩, z_in (by omega) (by decide), ?_⟩
        rintro σ23 rfl
        rw [z_cl (by omega), p5, nI_1]
        have hs2 : sameB σ0 (wr2 σ 8 i (nI (aHome a i))) := hs.tr (sameB_w2 (by decide))
        rw [mem_is (hs2.rc0 hC) hip]
        refine ih (i + 1) _ (by omega) (hs2.tr (sameB_w2 (by decide))) h11 h9 h10 (fun p hq => ?_)
        rw [rA_w2n _ _ _ _ _ (show (8 : Nat) ≠ 9 by decide), rA_w2s, rA_w2s, rA_w2n _ _ _ _ _ (show (9 : Nat) ≠ 8 by decide)]
        by_cases e : p = i
        · rw [if_pos e, if_pos e, e]; exact ⟨rfl, rfl⟩
        · rw [if_neg e, if_neg e]; exact hb p (by omega)
  refine ⟨nP a + 1, key (nP a) 0 _ (by omega) (((sameB_wI (by decide) (by decide)).tr (sameB_wI (by decide) (by decide))).tr (sameB_wI (by decide) (by decide))) rfl rfl rfl (fun p hq => absurd hq (Nat.not_lt_zero p))⟩
