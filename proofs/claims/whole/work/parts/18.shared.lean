theorem sp_X8_refusal : Sp_X8_refusal := by
  intro known inside σ _
  refine ⟨fun h => ⟨fun h2 => ⟨fun h3 => ?_, fun h3 => ?_⟩, fun h2 => ?_⟩, fun h => ?_⟩ <;> show _ = fn_X8_refusal known inside σ <;> unfold fn_X8_refusal
  · rw [b2i_0] at h3; rw [if_neg h, if_neg h2, if_neg h3]
  · rw [b2i_0, Classical.not_not] at h3; rw [if_neg h, if_neg h2, if_pos h3]
  · rw [if_neg h, if_pos h2]
  · rw [if_pos h]
theorem sp_X8_sheetAt : Sp_X8_sheetAt := by
  intro k σ _
  refine ⟨fun h => ?_, fun h => ?_⟩
  · rw [b2i_0] at h; exact (if_neg h).symm
  · rw [b2i_0, Classical.not_not] at h
    have hc : 0 ≤ k ∧ k < 4 := h
    obtain ⟨k1, hk, rfl⟩ := one_of (show (4 : Int32) = nI 4 from rfl) (by decide) h
    exact ⟨z_in (by omega) (by decide), (if_pos hc).symm⟩
theorem sp_X8_faulted : Sp_X8_faulted := by
  intro f σ _
  rintro σ1 rfl
  exact ⟨rfl, rfl⟩
theorem sp_X8_reach : Sp_X8_reach := by
  intro season paid a s1 σ0 hp
  obtain ⟨hC, ⟨rfl, hs1⟩, rfl, e4⟩ := hp
  refine ⟨a, ⟨hC, rfl, e4⟩, fun σ2 h2 => ?_⟩
  have key : ∀ k i (σ : S_), i + k = s1 + 1 → sameB σ0 σ → RunC a (runR a i) i i σ → (0 < i → NowC (runR a i) 3 σ) → vl_X8_reach_17 (nI s1) (post_X8_reach (nI s1) (nI (aPaid a)) a s1 σ0) (k + 1) (nI i) σ := by
    intro k
    induction k with
    | zero =>
      intro i σ hi hs hR hN
      have : i = s1 + 1 := by omega
      subst this
      exact ⟨fun _ => ⟨hs, hR, hN (by omega)⟩, fun h => absurd (by rw [z_lt (by omega) (by omega)]; omega) h⟩
    | succ k ih =>
      intro i σ hi hs hR hN
      refine ⟨fun h => ?_, fun _ => ⟨a, _, i, ⟨hs.rc0 hC, hR, by omega⟩, fun σ8 h8 => ?_⟩⟩
      · rw [z_lt (by omega) (by omega)] at h; omega
      · rw [nI_1]
        exact ih (i + 1) σ8 (by omega) (hs.tr h8.1) h8.2.1 (fun _ => h8.2.2)
  exact ⟨s1 + 1 + 1, key (s1 + 1) 0 σ2 (by omega) h2.1 h2.2 (fun h => absurd h (Nat.lt_irrefl 0))⟩
theorem sp_X8_isBannedIfPaid : Sp_X8_isBannedIfPaid := by
  intro deed season paid a d1 s1 σ0 hp
  obtain ⟨hC, hd, hs, hp, e4⟩ := hp
  refine ⟨a, s1, ⟨hC, hs, hp, e4⟩, fun σ3 h3 => ⟨a, _, s1 + 1, d1, ⟨h3.1.rc0 hC, h3.2.1, by omega, hd⟩, fun r8 h8 => ?_⟩⟩
  rw [show r8 = b2i ((forR a (runR a (s1 + 1)) (s1 + 1) (nT a)).testBit d1 = true) from h8]
  exact ⟨b2i_01 _, rfl, h3.1⟩
theorem alive_bit {a : AS} (hw : WF a) (r : RS) (T : Nat) {t : Nat} (ht : t < nT a) : fn_X8_isIn (nI t) (nI (maskB (alB a r T) (nT a))) = b2i (alB a r T t = true) := by
  have h6 := hw.2.2.2.2.1
  apply b2i_c
  rw [bit_s _ (maskB_lt64 _ h6) t (by omega), maskB_bit]
  simp; omega
theorem sp_X8_deathOf : Sp_X8_deathOf := by
  intro t a t1 σ0 hp
  obtain ⟨hC, ⟨rfl, ht⟩, e3, e4⟩ := hp
  have hl := rc_le hC
  have hw := wf_t hC.1 ht
  refine ⟨rc_l0 hC, a, ⟨hC, e3, e4⟩, fun σ2 h2 => ?_⟩
  have key : ∀ k i (σ : S_), i + k = 40 → sameB σ0 σ → RunC a (runR a i) i i σ → (∀ j, j < i → (decide (aTin a t1 < j) && !alB a (runR a (j + 1)) (j + 1) t1) = false) → vl_X8_deathOf_36 (nI t1) σ0 (post_X8_deathOf (nI t1) a t1 σ0) (k + 1) (nI i) σ := by
    intro k
    induction k with
    | zero =>
      intro i σ hi hs hR hn
      have : i = 40 := by omega
      subst this
      refine ⟨fun _ => ⟨?_, hs⟩, fun h => absurd (by rw [show (40 : Int32) = nI 40 from rfl, z_le (by omega) (by omega)]; omega) h⟩
      rw [ifI_t]
      exact findF_is (Nat.le_refl 40) hn (fun h => absurd h (Nat.lt_irrefl 40))
    | succ k ih =>
      intro i σ hi hs hR hn
      refine ⟨fun h => ?_, fun _ => ⟨a, _, i, ⟨hs.rc0 hC, hR, by omega⟩, fun σ8 h8 => ⟨fun hle => ?_, fun hgt => ⟨a, _, i + 1, ⟨(hs.tr h8.1).rc0 hC, h8.2.1⟩, fun r12 h12 => ⟨fun hal => ?_, fun hal => ?_⟩⟩⟩⟩⟩
      · rw [show (40 : Int32) = nI 40 from rfl, z_le (by omega) (by omega)] at h; omega
      · rw [(rc_t hC ht).2.1, z_le (by omega) (by omega)] at hle
        rw [nI_1]
        refine ih (i + 1) σ8 (by omega) (hs.tr h8.1) h8.2.1 (fun j hj => ?_)
        by_cases e : j = i
        · rw [e, decide_eq_false (by omega)]; rfl
        · exact hn j (by omega)
      · rw [show r12 = nI (maskB (alB a (runR a (i + 1)) (i + 1)) (nT a)) from h12, alive_bit hC.1 _ _ ht, b2i_0, Classical.not_not] at hal
        rw [nI_1]
        refine ih (i + 1) σ8 (by omega) (hs.tr h8.1) h8.2.1 (fun j hj => ?_)
        by_cases e : j = i
        · rw [e, hal]; simp
        · exact hn j (by omega)
      · rw [show r12 = nI (maskB (alB a (runR a (i + 1)) (i + 1)) (nT a)) from h12, alive_bit hC.1 _ _ ht, b2i_0, Bool.not_eq_true] at hal
        rw [(rc_t hC ht).2.1, z_le (by omega) (by omega)] at hgt
        have hd : death a t1 = i := findF_is (by omega) hn (fun _ => by rw [hal, decide_eq_true (by omega)]; rfl)
        refine ⟨?_, hs.tr h8.1⟩
        rw [hd, ifI_f (by omega)]
  exact ⟨40 + 1, key 40 0 σ2 (by omega) h2.1 h2.2 (fun j hj => absurd hj (Nat.not_lt_zero j))⟩
theorem sp_X8_firstBanned : Sp_X8_firstBanned := by
  intro season j i n a s1 F N σ0 hp
  obtain ⟨hC, e3, e4, rfl, hrow, hj, hsN, hs1, hcd⟩ := hp
  have hrow' := hrow
  obtain ⟨rfl, rfl, L, hL, eL, hb⟩ := hrow'
  refine ⟨a, ⟨hC, e3, e4⟩, fun σ2 h2 => ?_⟩
  have key : ∀ k x (σ : S_), x + k = s1 + N → sameB σ0 σ → RunC a (runR a x) x x σ → (∀ y, y < N → s1 + y < x → banB a (toN (rdA σ0 j (F + y))) (s1 + y) = false) → vl_X8_firstBanned_24 (nI s1) j (nI F) (nI N) (post_X8_firstBanned (nI s1) j (nI F) (nI N) a s1 F N σ0) (k + 1) (nI x) σ := by
    intro k
    induction k with
    | zero =>
      intro x σ hx hs hR hn
      refine ⟨fun _ => ⟨hs, ?_⟩, fun h => absurd (by rw [nI_add, z_le (by omega) (by omega)]; omega) h⟩
      rw [ifI_t]
      exact findF_is (Nat.le_refl N) (fun y hy => hn y hy (by omega)) (fun h => absurd h (Nat.lt_irrefl N))
    | succ k ih =>
      intro x σ hx hs hR hn
      refine ⟨fun h => ?_, fun _ => ⟨a, _, x, ⟨hs.rc0 hC, hR, by omega⟩, fun σ8 h8 => ⟨fun hneg => ?_, fun hpos => ?_⟩⟩⟩
      · rw [nI_add, z_le (by omega) (by omega)] at h; omega
      · rw [nI_1]
        refine ih (x + 1) σ8 (by omega) (hs.tr h8.1) h8.2.1 (fun y hy hyx => ?_)
        by_cases e : s1 ≤ x
        · rw [pk_sub e] at hneg
          exact absurd hneg (nI_pos (by omega))
        · omega
      · have hge : s1 ≤ x := by
          rcases Nat.lt_or_ge x s1 with q | q
          · exact absurd (pk_sneg (by omega) q) hpos
          · exact q
        have hs8 := hs.tr h8.1
        have hrow8 : rowOK j (nI F) (nI N) F N σ8 := ⟨rfl, rfl, L, hL, by rw [hs8.1 _ (by omega)]; exact eL, hb⟩
        rw [pk_sub hge, nI_add]
        obtain ⟨a1, a2, a3⟩ := at_row hrow8 (x := x - s1) (by omega)
        have a2' : fn_X5_at j (nI (F + (x - s1))) σ8 = rdA σ0 j (F + (x - s1)) := by rw [a2, hs8.2.1 j (by omega)]
        obtain ⟨d, hd, ed⟩ := hcd (x - s1) (by omega)
        rw [a2', ed]
        have etn : toN (rdA σ0 j (F + (x - s1))) = d := by rw [ed]; exact z_cl (by omega)
        refine ⟨a1, a, _, x + 1, d, ⟨hs8.rc0 hC, h8.2.1, by omega, rfl, hd⟩, fun r13 h13 => ⟨fun e => ?_, fun e => ?_⟩⟩
        · rw [show r13 = b2i (banB a d x = true) from h13, b2i_0, Bool.not_eq_true] at e
          rw [nI_1]
          refine ih (x + 1) σ8 (by omega) hs8 h8.2.1 (fun y hy hyx => ?_)
          by_cases e2 : y = x - s1
          · rw [e2, etn, show s1 + (x - s1) = x by omega]; exact e
          · exact hn y hy (by omega)
        · rw [show r13 = b2i (banB a d x = true) from h13, b2i_0, Classical.not_not] at e
          have hf : findF (fun x => banB a (toN (rdA σ0 j (F + x))) (s1 + x)) N 0 = x - s1 := findF_is (by omega) (fun y hy => hn y (by omega) (by omega)) (fun _ => by
            show banB a (toN (rdA σ0 j (F + (x - s1)))) (s1 + (x - s1)) = true
            rw [etn, show s1 + (x - s1) = x by omega]; exact e)
          refine ⟨hs8, ?_⟩
          rw [hf, ifI_f (by omega)]
  exact ⟨s1 + N + 1, key (s1 + N) 0 σ2 (by omega) h2.1 h2.2 (fun y hy h => absurd h (Nat.not_lt_zero _))⟩
theorem sp_X8_areReadingsSoIn : Sp_X8_areReadingsSoIn := by
  intro season a S σ hp
  obtain ⟨hC, hR, rfl, hS⟩ := hp
  have hl := rc_le hC
  have key : ∀ k i, i + k = nR a → (∀ j, j < i → soIn a S j = true) → vl_X8_areReadingsSoIn_2 (nI S) σ (post_X8_areReadingsSoIn (nI S) a S σ) (k + 1) (nI i) := by
    intro k
    induction k with
    | zero =>
      intro i hi hall
      refine ⟨fun _ => ?_, fun h => absurd (by rw [rc_R hC, z_le (by omega) (by omega)]; omega) h⟩
      exact (b2i_t (allB_iff.mpr (fun j hj => hall j (by omega)))).symm
    | succ k ih =>
      intro i hi hall
      have hw := wf_r hC.1 (k := i) (by omega)
      obtain ⟨a0, a1, a2, a3⟩ := rc_r hC (k := i) (by omega)
      have next : soIn a S i = true → vl_X8_areReadingsSoIn_2 (nI S) σ (post_X8_areReadingsSoIn (nI S) a S σ) (k + 1) (nI i + 1) := by
        intro h
        rw [nI_1]
        refine ih (i + 1) (by omega) (fun j hj => ?_)
        by_cases e : j = i
        · rw [e]; exact h
        · exact hall j (by omega)
      refine ⟨fun h => ?_, fun _ => ⟨rc_l3 hC, ⟨fun hne => ?_, fun he => ⟨rc_l3 hC, rc_l3 hC, a, _, S + 1, aRof a i, ⟨hC, hR, a0, hw.1⟩, fun r6 h6 => ⟨rc_l3 hC, fun b => b = b2i (aRdid a i = 1), ⟨fun h => ?_, fun h => ?_⟩, fun b hb => ?_⟩⟩⟩⟩⟩
      · rw [rc_R hC, z_le (by omega) (by omega)] at h; omega
      · rw [a1, z_eq (by omega) (by omega)] at hne
        apply next
        unfold soIn; rw [decide_eq_false hne]; rfl
      · rw [a3, show (1 : Int32) = nI 1 from rfl, z_eq (by omega) (by omega)] at h
        exact (b2i_f h).symm
      · rw [a3, show (1 : Int32) = nI 1 from rfl, z_eq (by omega) (by omega)] at h
        exact (b2i_t h).symm
      · rw [a1, z_eq (by omega) (by omega)] at he
        have eb : fn_X8_isIn (fn_X3_at 3 (nI i) 2 σ) r6 = b2i (remB a (runR a (S + 1)) (S + 1) (aRof a i) (aRt a i) = true) := by
          rw [a2, show r6 = nI (maskB (remB a (runR a (S + 1)) (S + 1) (aRof a i)) (nT a)) from h6]
          apply b2i_c
          rw [bit_s _ (maskB_lt64 _ (by omega)) _ (by omega), maskB_bit]
          simp; omega
        have es : soIn a S i = (remB a (runR a (S + 1)) (S + 1) (aRof a i) (aRt a i) == decide (aRdid a i = 1)) := by
          unfold soIn; rw [decide_eq_true he]; rfl
        rw [eb, show b = b2i (aRdid a i = 1) from hb]
        have h01 : ∀ c d : Prop, ∀ (_ : Decidable c) (_ : Decidable d), (b2i c = b2i d) ↔ (c ↔ d) := by
          intro c d _ _
          by_cases hc : c <;> by_cases hd : d
          · rw [b2i_t hc, b2i_t hd]; simp [hc, hd]
          · rw [b2i_t hc, b2i_f hd]; simp [hc, hd]
          · rw [b2i_f hc, b2i_t hd]; simp [hc, hd]
          · rw [b2i_f hc, b2i_f hd]; simp [hc, hd]
        refine ⟨fun h => ?_, fun h => ?_⟩
        · rw [h01] at h
          apply next
          rw [es]
          by_cases hd : aRdid a i = 1
          · rw [h.mpr hd, decide_eq_true hd]; rfl
          · rw [Bool.eq_false_iff.mpr (fun q => hd (h.mp q)), decide_eq_false hd]; rfl
        · rw [h01] at h
          have hf : soIn a S i = false := by
            rw [es]
            by_cases hd : aRdid a i = 1
            · have : remB a (runR a (S + 1)) (S + 1) (aRof a i) (aRt a i) = false := Bool.eq_false_iff.mpr (fun q => h ⟨fun _ => hd, fun _ => q⟩)
              rw [this, decide_eq_true hd]; rfl
            · have : remB a (runR a (S + 1)) (S + 1) (aRof a i) (aRt a i) = true := by
                cases e : remB a (runR a (S + 1)) (S + 1) (aRof a i) (aRt a i) with
                | true => rfl
                | false => exact absurd ⟨fun q => (by rw [e] at q; cases q), fun q => absurd q hd⟩ h
              rw [this, decide_eq_false hd]; rfl
          exact (b2i_f (fun q => by rw [allB_no (i := i) (by omega) hf] at q; cases q)).symm
  exact ⟨nR a + 1, key (nR a) 0 (by omega) (fun j hj => absurd hj (Nat.not_lt_zero j))⟩
theorem sp_X8_areReadingsSo : Sp_X8_areReadingsSo := by
  intro paid law a σ0 hp
  obtain ⟨hC, e1, e2⟩ := hp
  refine ⟨a, ⟨hC, e1, e2⟩, fun σ2 h2 => ?_⟩
  have key : ∀ k i (σ : S_), i + k = 40 → sameB σ0 σ → RunC a (runR a i) i i σ → (∀ j, j < i → allB (soIn a j) (nR a) = true) → vl_X8_areReadingsSo_11 (post_X8_areReadingsSo paid law a σ0) (k + 1) (nI i) σ := by
    intro k
    induction k with
    | zero =>
      intro i σ hi hs hR hn
      have : i = 40 := by omega
      subst this
      refine ⟨fun _ => ⟨?_, hs⟩, fun h => absurd (by rw [show (40 : Int32) = nI 40 from rfl, z_le (by omega) (by omega)]; omega) h⟩
      exact (b2i_t (allB_iff.mpr hn)).symm
    | succ k ih =>
      intro i σ hi hs hR hn
      refine ⟨fun h => ?_, fun _ => ⟨a, _, i, ⟨hs.rc0 hC, hR, by omega⟩, fun σ8 h8 => ⟨a, i, ⟨(hs.tr h8.1).rc0 hC, h8.2.1, rfl, by omega⟩, fun r11 h11 => ⟨fun e => ?_, fun e => ?_⟩⟩⟩⟩
      · rw [show (40 : Int32) = nI 40 from rfl, z_le (by omega) (by omega)] at h; omega
      · rw [show r11 = b2i (allB (soIn a i) (nR a) = true) from h11, b2i_0, Classical.not_not] at e
        rw [nI_1]
        refine ih (i + 1) σ8 (by omega) (hs.tr h8.1) h8.2.1 (fun j hj => ?_)
        by_cases e2 : j = i
        · rw [e2]; exact e
        · exact hn j (by omega)
      · rw [show r11 = b2i (allB (soIn a i) (nR a) = true) from h11, b2i_0, Bool.not_eq_true] at e
        refine ⟨?_, hs.tr h8.1⟩
        exact (b2i_f (fun q => by rw [soB, allB_no (i := i) (by omega) e] at q; cases q)).symm
  exact ⟨40 + 1, key 40 0 σ2 (by omega) h2.1 h2.2 (fun j hj => absurd hj (Nat.not_lt_zero j))⟩
theorem sp_X6_firstUnmet : Sp_X6_firstUnmet := by
  intro banned a m σ hp
  obtain ⟨hC, rfl, hm⟩ := hp
  have hl := rc_le hC
  have key : ∀ k i, i + k = nN a → (∀ j, j < i → (m.testBit (aN1 a j) && m.testBit (aN2 a j)) = false) → vl_X6_firstUnmet_2 (nI m) σ (post_X6_firstUnmet (nI m) a m σ) (k + 1) (nI i) := by
    intro k
    induction k with
    | zero =>
      intro i hi hn
      refine ⟨fun _ => ?_, fun h => absurd (by rw [rc_N hC, z_le (by omega) (by omega)]; omega) h⟩
      have hu : unmet a m = nN a := findF_is (Nat.le_refl _) (fun j hj => hn j (by omega)) (fun h => absurd h (Nat.lt_irrefl _))
      exact (ifI_t hu).symm
    | succ k ih =>
      intro i hi hn
      have hw := wf_n hC.1 (k := i) (by omega)
      obtain ⟨a0, a1⟩ := rc_n hC (k := i) (by omega)
      have b0 : fn_X8_isIn (fn_X3_at 2 (nI i) 0 σ) (nI m) = b2i (m.testBit (aN1 a i) = true) := by
        rw [a0]; apply b2i_c; rw [bit_s _ hm _ (by omega)]
      have b1 : fn_X8_isIn (fn_X3_at 2 (nI i) 1 σ) (nI m) = b2i (m.testBit (aN2 a i) = true) := by
        rw [a1]; apply b2i_c; rw [bit_s _ hm _ (by omega)]
      have next : (m.testBit (aN1 a i) && m.testBit (aN2 a i)) = false → vl_X6_firstUnmet_2 (nI m) σ (post_X6_firstUnmet (nI m) a m σ) (k + 1) (nI i + 1) := by
        intro h
        rw [nI_1]
        refine ih (i + 1) (by omega) (fun j hj => ?_)
        by_cases e : j = i
        · rw [e]; exact h
        · exact hn j (by omega)
      refine ⟨fun h => ?_, fun _ => ⟨rc_l2 hC, ⟨fun h => ?_, fun h => ⟨rc_l2 hC, ⟨fun h2 => ?_, fun h2 => ?_⟩⟩⟩⟩⟩
      · rw [rc_N hC, z_le (by omega) (by omega)] at h; omega
      · rw [b0, b2i_0, Bool.not_eq_true] at h
        exact next (by rw [h]; rfl)
      · rw [b1, b2i_0, Bool.not_eq_true] at h2
        exact next (by rw [h2, Bool.and_false])
      · rw [b0, b2i_0, Classical.not_not] at h
        rw [b1, b2i_0, Classical.not_not] at h2
        have hu : unmet a m = i := findF_is (by omega) hn (fun _ => by rw [h, h2]; rfl)
        show _ = ifI _ _ _
        rw [hu, ifI_f (by omega)]
  exact ⟨nN a + 1, key (nN a) 0 (by omega) (fun j hj => absurd hj (Nat.not_lt_zero j))⟩
