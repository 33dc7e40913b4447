theorem findF_c {P Q : Nat → Bool} : ∀ n i, (∀ j, i ≤ j → j < i + n → P j = Q j) → findF P n i = findF Q n i := by
  intro n
  induction n with
  | zero => intro i _; rfl
  | succ n ih =>
    intro i h
    rw [findF, findF, h i (Nat.le_refl i) (by omega), ih (i + 1) (fun j h1 h2 => h j (by omega) (by omega))]
theorem ffN_c {c c' : Nat → Int32} {n : Nat} (h : ∀ i, i < n → c i = c' i) : ffN c n = ffN c' n := by
  have e : findF (fun i => !goN c i) n 0 = findF (fun i => !goN c' i) n 0 := findF_c n 0 (fun j _ hj => by
    have := h j (by omega)
    show (!goN c j) = (!goN c' j)
    unfold goN
    rw [this])
  unfold ffN; rw [e]
theorem ffN_le (c : Nat → Int32) (n : Nat) : ffN c n ≤ n + 100 := by
  have := findF_le (P := fun i => !goN c i) (n := n)
  unfold ffN; split
  · omega
  · split <;> omega
theorem wf_new {a : AS} (hw : WF a) {k I N P : Nat} (hP2 : 2 ≤ P) (hP6 : P ≤ 6) (hN : N = 4 * P + 1) (h : ∀ p, p < P → kdN (aCell a k (I + 4 * p + 2)) < 3 ∧ 1 ≤ toN (aCell a k (I + 4 * p + 3)) - 48 ∧ toN (aCell a k (I + 4 * p + 3)) - 48 ≤ 5 ∧ toN (aCell a k (I + 4 * p + 4)) - 48 < 3) : WF (newSt a k I N) := by
  have eP : nP (newSt a k I N) = P := by show (N - 1) / 4 = P; omega
  obtain ⟨w1, w2, w3, w4, w5, w6, w7, w8, w9, w10, w11, w12, w13, w14, w15, w16⟩ := hw
  refine ⟨Or.inr (by rw [eP]; exact hP2), by rw [eP]; exact hP6, Nat.pow_pos (by decide), (by show 0 < 3; decide), Nat.zero_le _, Nat.zero_le _, Nat.zero_le _, Nat.zero_le _, Nat.zero_le _, fun p hp => ?_, fun t ht => absurd ht (Nat.not_lt_zero t), fun t ht => absurd ht (Nat.not_lt_zero t), fun t ht => absurd ht (Nat.not_lt_zero t), fun t ht => absurd ht (Nat.not_lt_zero t), w15, fun z => ?_⟩
  · rw [eP] at hp; exact h p hp
  · rw [eP] at z; omega
theorem kd_is {k : Nat} (hk : k < 3) : kdN (if k = 0 then 104 else if k = 1 then 98 else 103) = k := by
  have : k = 0 ∨ k = 1 ∨ k = 2 := by omega
  rcases this with rfl | rfl | rfl <;> decide
theorem sp_X9_steppe : Sp_X9_steppe := by
  intro sh lane i n a σ hp
  have hR : RR a σ := hp
  have hl := rr_le hR
  have flt : ∀ v : Nat, v ≤ 4 → RR (setN a 7 v) (wrI σ 0 (nI v)) := fun v hv => rr_flt hR hv
  refine ⟨fun h => ⟨fun h2 => ?_, fun h2 => ?_⟩, fun h => ?_⟩
  · rw [noSh] at h; rw [in3, Classical.not_not] at h2
    have g : ¬ ¬ inR sh 4 := fun z => z h
    have g2 : ¬ ¬ inR lane 3 := fun z => z h2
    obtain ⟨k, hk, rfl⟩ := (inR_iff (n := 4) (by decide)).mp h
    have tk : toN (nI k) = k := z_cl (by omega)
    have ws := wf_s hR.1 hk
    refine ⟨a, k, n, ⟨hR, rfl, hk, rfl⟩, fun r5 σ4 h5 => ?_⟩
    unfold post_X9_cellsBarred at h5
    have hb4 := bar_le a k lane i n
    by_cases c : barF a k lane i n = 0
    · rw [if_pos c] at h5
      obtain ⟨rfl, rfl⟩ := h5
      refine ⟨fun _ => ?_, fun z => absurd (by decide) z⟩
      obtain ⟨I, N, rfl, rfl, hIN, hI1, hN1⟩ := bar_no ws.1 c
      have tI : toN (nI I) = I := z_cl (by omega)
      have tN : toN (nI N) = N := z_cl (by omega)
      have hcell : ∀ (σ' : S_), rdA σ' 26 = rdA σ4 26 → ∀ x, x < N → rdA σ' 26 (60 * k + I + x) = aCell a k (I + x) := fun σ' e x hx => by
        have := (rr_s hR hk).2.2 (I + x) (by omega)
        rw [e, ← this, Nat.add_assoc]
      have hff : ffR (60 * k + I) N σ4 = ffN (fun x => aCell a k (I + x)) N := ffN_c (fun x hx => hcell σ4 rfl x hx)
      have eres : res_steppe (nI k) lane (nI I) (nI N) a = if ffN (fun x => aCell a k (I + x)) N = N + 100 then nI ((N - 1) / 4) else -100 - nI (ffN (fun x => aCell a k (I + x)) N) := by
        unfold res_steppe; rw [if_neg g, if_neg g2, tk, if_neg (fun z => z c), tI, tN]
      have enxt : nxt_steppe (nI k) lane (nI I) (nI N) a = if ffN (fun x => aCell a k (I + x)) N = N + 100 then newSt a k I N else setN a 7 0 := by
        unfold nxt_steppe; rw [if_neg g, if_neg g2, tk, if_neg (fun z => z c), tI, tN]
      have e60 : 60 * nI k + nI I = nI (60 * k + I) := by rw [show (60 : Int32) = nI 60 from rfl, pk_mul, nI_add]
      rw [e60]
      refine ⟨60 * k + I, N, ⟨rfl, rfl, by omega, by omega⟩, ?_⟩
      rintro r9 σ8 ⟨hs, h9⟩
      have hR8 : RR a σ8 := by
        obtain ⟨w, e0, e1, e2, e3, e6, e7, e8, e9, e10, hp', ht, hm', hn, hr, hs'⟩ := hR
        refine ⟨w, (hs.1 0 (by decide) (by decide)).trans e0, (hs.1 1 (by decide) (by decide)).trans e1, (hs.1 2 (by decide) (by decide)).trans e2, (hs.1 3 (by decide) (by decide)).trans e3, (hs.1 6 (by decide) (by decide)).trans e6, (hs.1 7 (by decide) (by decide)).trans e7, (hs.1 8 (by decide) (by decide)).trans e8, (hs.1 9 (by decide) (by decide)).trans e9, (hs.1 10 (by decide) (by decide)).trans e10, ?_, ?_, ?_, ?_, ?_, ?_⟩
        · rw [hs.2 1 (by omega), hs.2 2 (by omega), hs.2 3 (by omega)]; exact hp'
        · rw [hs.2 7 (by omega), hs.2 8 (by omega), hs.2 9 (by omega), hs.2 10 (by omega)]; exact ht
        · rw [hs.2 11 (by omega), hs.2 12 (by omega), hs.2 13 (by omega)]; exact hm'
        · rw [hs.2 18 (by omega), hs.2 19 (by omega)]; exact hn
        · rw [hs.2 20 (by omega), hs.2 21 (by omega), hs.2 22 (by omega), hs.2 23 (by omega)]; exact hr
        · rw [hs.2 24 (by omega), hs.2 25 (by omega), hs.2 26 (by omega)]; exact hs'
      rcases h9 with ⟨rfl, P, hP2, hN, ⟨a1, a2, a3, a4, a5⟩, hf⟩ | ⟨rfl, hf, h4⟩
      · rw [hff] at hf
        rw [if_pos hf] at eres enxt
        refine ⟨fun _ => ?_, fun z => absurd z (by decide)⟩
        rintro σ10 rfl
        rw [a4]
        have key : ∀ m x (σ' : S_), x + m = P → (∀ y, rdI σ' y = rdI (wrI σ8 1 (nI P)) y) → (∀ j, ¬ j = 1 → ¬ j = 2 → ¬ j = 3 → rdA σ' j = rdA σ8 j) → (∀ p, p < x → rdA σ' 1 p = rdA σ8 4 p ∧ rdA σ' 2 p = rdA σ8 5 p ∧ rdA σ' 3 p = rdA σ8 6 p) → vl_X9_steppe_90 (post_X9_steppe (nI k) lane (nI I) (nI N) a σ4) (m + 1) (nI x) σ' := by
          intro m
          induction m with
          | zero =>
            intro x σ' hx hI hA hrow
            have : x = P := by omega
            subst this
            have e1 : rdI σ' 1 = nI x := hI 1
            refine ⟨fun _ => ?_, fun h => absurd (by rw [e1, z_le (by omega) (by omega)]; omega) h⟩
            rintro σ14 rfl
            rintro σ16 rfl
            rintro σ18 rfl
            rintro σ20 rfl
            rintro σ22 rfl
            rintro σ24 rfl
            rintro r27 σ26 ⟨rfl, rfl⟩
            have hcode : ∀ p, p < x → ∃ q m h : Nat, q < 3 ∧ 1 ≤ m ∧ m ≤ 5 ∧ h < 3 ∧ kdN (aCell a k (I + 4 * p + 2)) = q ∧ toN (aCell a k (I + 4 * p + 3)) - 48 = m ∧ toN (aCell a k (I + 4 * p + 4)) - 48 = h ∧ rdA σ' 1 p = nI q ∧ rdA σ' 2 p = nI m ∧ rdA σ' 3 p = nI h := by
              intro p hpx
              obtain ⟨q, m, h, b1, b2, b3, b4, b5, b6, b7, b8, b9, b10⟩ := a5 p hpx
              obtain ⟨r1, r2, r3⟩ := hrow p hpx
              have e26 : rdA σ8 26 = rdA σ4 26 := hs.2 26 (by omega)
              have c2 := hcell σ8 e26 (4 * p + 2) (by omega)
              have c3 := hcell σ8 e26 (4 * p + 3) (by omega)
              have c4 := hcell σ8 e26 (4 * p + 4) (by omega)
              rw [← Nat.add_assoc, ← Nat.add_assoc, b5] at c2
              rw [← Nat.add_assoc, ← Nat.add_assoc, b6] at c3
              rw [← Nat.add_assoc, ← Nat.add_assoc, b7] at c4
              refine ⟨q, m, h, b1, b2, b3, b4, ?_, ?_, ?_, r1.trans b8, r2.trans b9, r3.trans b10⟩
              · rw [← c2]; exact kd_is b1
              · rw [← c3]; show Int32.toNatClampNeg (nI (48 + m)) - 48 = m; rw [z_cl (by omega)]; omega
              · rw [← c4]; show Int32.toNatClampNeg (nI (48 + h)) - 48 = h; rw [z_cl (by omega)]; omega
            have hPe : (N - 1) / 4 = x := by omega
            refine ⟨?_, ?_⟩
            · rw [eres, hPe]; exact e1
            · rw [enxt]
              have w := wf_new hR.1 (k := k) (I := I) hP2 a2 hN (fun p hpx => by
                obtain ⟨q, m, h, b1, b2, b3, b4, b5, b6, b7, -⟩ := hcode p hpx
                rw [b5, b6, b7]; exact ⟨b1, b2, b3, b4⟩)
              refine ⟨w, rfl, ?_, rfl, rfl, rfl, rfl, rfl, rfl, ?_, fun p hpx => ?_, fun t ht => absurd ht (Nat.not_lt_zero t), fun t ht => absurd ht (Nat.not_lt_zero t), fun t ht => absurd ht (Nat.not_lt_zero t), fun t ht => absurd ht (Nat.not_lt_zero t), fun z hz => ?_⟩
              · show rdI σ' 1 = nI ((N - 1) / 4); rw [hPe]; exact e1
              · show rdI σ' 10 = aTr a
                rw [hI 10, rI_ne _ _ (by decide)]; exact rr_tr hR8
              · have hpx' : p < (N - 1) / 4 := hpx
                obtain ⟨q, m, h, b1, b2, b3, b4, b5, b6, b7, b8, b9, b10⟩ := hcode p (by omega)
                refine ⟨?_, ?_, ?_⟩
                · show rdA σ' 1 p = nI (kdN (aCell a k (I + 4 * p + 2))); rw [b5]; exact b8
                · show rdA σ' 2 p = nI (toN (aCell a k (I + 4 * p + 3)) - 48); rw [b6]; exact b9
                · show rdA σ' 3 p = nI (toN (aCell a k (I + 4 * p + 4)) - 48); rw [b7]; exact b10
              · have q := rr_s hR8 hz
                show rdA σ' 24 z + 1 = _ ∧ (_ → rdA σ' 25 z = _) ∧ ∀ i, _ → rdA σ' 26 _ = _
                rw [hA 24 (by decide) (by decide) (by decide), hA 25 (by decide) (by decide) (by decide), hA 26 (by decide) (by decide) (by decide)]
                exact q
          | succ m ih =>
            intro x σ' hx hI hA hrow
            have e1 : rdI σ' 1 = nI P := hI 1
            have hin : vp_in (nI x) 6 := z_in (by omega) (by decide)
            refine ⟨fun h => ?_, fun _ => ⟨hin, hin, ?_⟩⟩
            · rw [e1, z_le (by omega) (by omega)] at h; omega
            · rw [z_cl (show x < 2147483648 by omega)]
              rintro σ28 rfl
              refine ⟨hin, hin, ?_⟩
              rintro σ30 rfl
              refine ⟨hin, hin, ?_⟩
              rintro σ32 rfl
              rw [nI_1]
              have k4 : rdA σ' 4 = rdA σ8 4 := hA 4 (by decide) (by decide) (by decide)
              have k5 : rdA (wr2 σ' 1 x (rdA σ' 4 x)) 5 = rdA σ8 5 := by rw [rA_w2n _ _ _ _ _ (by decide)]; exact hA 5 (by decide) (by decide) (by decide)
              have k6 : ∀ v, rdA (wr2 (wr2 σ' 1 x (rdA σ' 4 x)) 2 x v) 6 = rdA σ8 6 := fun v => by rw [rA_w2n _ _ _ _ _ (by decide), rA_w2n _ _ _ _ _ (by decide)]; exact hA 6 (by decide) (by decide) (by decide)
              refine ih (x + 1) _ (by omega) (fun y => by rw [rI_w2, rI_w2, rI_w2]; exact hI y) (fun j j1 j2 j3 => by rw [rA_w2n _ _ _ _ _ j3, rA_w2n _ _ _ _ _ j2, rA_w2n _ _ _ _ _ j1]; exact hA j j1 j2 j3) (fun p hpx => ?_)
              rw [k6, k5, k4]
              rw [rA_w2n _ _ _ _ _ (show (1 : Nat) ≠ 3 by decide), rA_w2n _ _ _ _ _ (show (1 : Nat) ≠ 2 by decide), rA_w2s, rA_w2n _ _ _ _ _ (show (2 : Nat) ≠ 3 by decide), rA_w2s, rA_w2n _ _ _ _ _ (show (2 : Nat) ≠ 1 by decide), rA_w2s, rA_w2n _ _ _ _ _ (show (3 : Nat) ≠ 2 by decide), rA_w2n _ _ _ _ _ (show (3 : Nat) ≠ 1 by decide)]
              by_cases e : p = x
              · rw [if_pos e, if_pos e, if_pos e, e]; exact ⟨rfl, rfl, rfl⟩
              · rw [if_neg e, if_neg e, if_neg e]; exact hrow p (by omega)
        exact ⟨P + 1, key P 0 _ (by omega) (fun _ => rfl) (fun _ _ _ _ => rfl) (fun p hpx => absurd hpx (Nat.not_lt_zero p))⟩
      · rw [hff] at hf h4
        rw [if_neg hf] at eres enxt
        refine ⟨fun z => absurd rfl z, fun _ => ?_⟩
        rintro r36 σ35 ⟨rfl, rfl⟩
        exact ⟨by rw [eres, h4], by rw [enxt]; exact rr_flt hR8 (by decide)⟩
    · rw [if_neg c] at h5
      obtain ⟨rfl, rfl⟩ := h5
      refine ⟨fun z => absurd z (m10 _ (by omega) c), fun _ => ⟨?_, ?_⟩⟩
      · unfold res_steppe; rw [if_neg g, if_neg g2, tk, if_pos c]
      · unfold nxt_steppe; rw [if_neg g, if_neg g2, tk, if_pos c]; exact flt _ hb4
  · rw [noSh] at h; rw [in3] at h2
    have g : ¬ ¬ inR sh 4 := fun z => z h
    rintro r2 σ1 ⟨q1, q2⟩
    exact ⟨by unfold res_steppe; rw [if_neg g, if_pos h2]; exact q1, by unfold nxt_steppe; rw [if_neg g, if_pos h2, q2]; exact flt 0 (by decide)⟩
  · rw [noSh] at h
    rintro r2 σ1 ⟨q1, q2⟩
    exact ⟨by unfold res_steppe; rw [if_pos h]; exact q1, by unfold nxt_steppe; rw [if_pos h, q2]; exact flt 0 (by decide)⟩
