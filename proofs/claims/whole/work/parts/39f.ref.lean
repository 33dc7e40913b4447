theorem sp_X9_readsPerson : Sp_X9_readsPerson := by
  intro fr n F N P σ0 hp
  have hp' := hp
  obtain ⟨hr, hN60, a1, a2, a3, a4, a5⟩ := hp'
  obtain ⟨e1, e2, e3, e4, e5⟩ := hr
  have stop : ∀ R (σ : S_), sameT σ0 σ → rdI σ 4 = nI R → R ≤ N → 4 * P + 1 ≤ R → R ≤ 4 * P + 4 → (∀ i, i < R → goN (fun i => rdA σ0 26 (F + i)) i = true) → (R < N → ¬ goesP (nI R) (rdA σ0 26 (F + R))) → post_X9_readsPerson fr n F N P σ0 0 σ := by
    intro R σ hs h4 h1 h2 h3 hall hno
    have e : rdA σ 26 = rdA σ0 26 := hs.2 26 (by omega)
    exact ⟨hs, Or.inr ⟨rfl, R, h4, h1, h2, h3, by rw [e]; exact hall, fun h => by rw [e]; exact goN_f (hno h)⟩⟩
  unfold vc_X9_readsPerson
  rw [a4, show (6 : Int32) = nI 6 from rfl, z_eq (by omega) (by decide)]
  refine ⟨fun h6 => ?_, fun h6 => ⟨F, N, 4 * P + 1, ⟨e1, e2, e3, e4, e5⟩, ?_⟩⟩
  · refine stop (4 * P + 1) σ0 ⟨fun _ _ _ => rfl, fun _ _ => rfl⟩ e4 e5 (Nat.le_refl _) (by omega) a3 (fun _ => ?_)
    rw [h6]; intro z; rw [go25] at z; exact z
  · have hP : P < 6 := by omega
    rintro r4 h4
    have h4' : r4 = cdR F N (4 * P + 1) σ0 := h4
    refine ⟨fun h59 => ?_, fun h59 => ?_⟩
    · have hlt : 4 * P + 1 < N := by
        by_cases c : 4 * P + 1 < N
        · exact c
        · unfold cdR at h4'; rw [if_neg c, h59] at h4'; exact absurd h4' (by decide)
      have hc1 : rdA σ0 26 (F + (4 * P + 1)) = 59 := by unfold cdR at h4'; rw [if_pos hlt] at h4'; rw [← h4', h59]
      rintro σ5 rfl
      rw [e4, nI_1]
      have hr5 : rdrOK fr n F N (4 * P + 2) (wrI σ0 4 (nI (4 * P + 1 + 1))) := ⟨e1, e2, e3, rI_same _ _ _, hlt⟩
      refine ⟨F, N, 4 * P + 2, hr5, ?_⟩
      rintro r10 h10
      have h10' : r10 = cdR F N (4 * P + 2) (wrI σ0 4 (nI (4 * P + 1 + 1))) := h10
      have hall2 : ∀ i, i < 4 * P + 2 → goN (fun i => rdA σ0 26 (F + i)) i = true := by
        intro i hi
        by_cases c : i < 4 * P + 1
        · exact a3 i c
        · have : i = 4 * P + 1 := by omega
          rw [this]; exact goN_t (by rw [go1 hP]; exact hc1)
      have go : ∀ k, k < 3 → r10 = (if k = 0 then 104 else if k = 1 then 98 else 103) → ∀ σ11 : S_, σ11 = wrI (wrI σ0 4 (nI (4 * P + 1 + 1))) 4 (rdI (wrI σ0 4 (nI (4 * P + 1 + 1))) 4 + 1) → RpT fr n r10 σ11 (post_X9_readsPerson fr n F N P σ0) := by
        rintro k hk hkr σ11 rfl
        have hlt2 : 4 * P + 2 < N := by
          by_cases c : 4 * P + 2 < N
          · exact c
          · unfold cdR at h10'; rw [if_neg c] at h10'
            rw [h10'] at hkr
            have : k = 0 ∨ k = 1 ∨ k = 2 := by omega
            rcases this with rfl | rfl | rfl <;> exact absurd hkr (by decide)
        have hc2 : rdA σ0 26 (F + (4 * P + 2)) = r10 := by unfold cdR at h10'; rw [if_pos hlt2] at h10'; exact h10'.symm
        rw [rI_same, nI_1]
        exact rp_tail hp hP (by omega) hc1 hc2 hk hkr
      refine ⟨fun q => ?_, fun q => ⟨fun q2 => ?_, fun q2 => ⟨fun q3 => ?_, fun q3 => ?_⟩⟩⟩
      · exact fun σ11 h11 => go 0 (by decide) (by rw [if_pos rfl]; exact q) σ11 h11
      · exact fun σ11 h11 => go 1 (by decide) (by rw [if_neg (by decide), if_pos rfl]; exact q2) σ11 h11
      · exact fun σ11 h11 => go 2 (by decide) (by rw [if_neg (by decide), if_neg (by decide)]; exact q3) σ11 h11
      · refine stop (4 * P + 2) _ ⟨fun x hx _ => rI_ne _ _ hx, fun _ _ => rfl⟩ (rI_same _ _ _) hlt (by omega) (by omega) hall2 (fun hRN => ?_)
        rw [go2 hP]
        have : r10 = rdA σ0 26 (F + (4 * P + 2)) := by unfold cdR at h10'; rw [if_pos hRN] at h10'; exact h10'
        rw [← this]
        exact fun z => z.elim q (fun z => z.elim q2 q3)
    · refine stop (4 * P + 1) σ0 ⟨fun _ _ _ => rfl, fun _ _ => rfl⟩ e4 e5 (Nat.le_refl _) (by omega) a3 (fun hRN => ?_)
      rw [go1 hP]
      have : r4 = rdA σ0 26 (F + (4 * P + 1)) := by unfold cdR at h4'; rw [if_pos hRN] at h4'; exact h4'
      rw [← this]; exact h59
theorem sameT.tr {x y z : S_} (h1 : sameT x y) (h2 : sameT y z) : sameT x z := ⟨fun k a b => (h2.1 k a b).trans (h1.1 k a b), fun j hj => (h2.2 j hj).trans (h1.2 j hj)⟩
theorem sp_X9_readsSteppe : Sp_X9_readsSteppe := by
  intro fr n F N σ0 hp
  obtain ⟨hf, hn, hFN, hN60⟩ := hp
  have exit0 : ∀ k R (σ : S_), sameT σ0 σ → rdI σ 4 = nI R → R ≤ N → (∀ i, i < R → goN (fun i => rdA σ0 26 (F + i)) i = true) → (R < N → goN (fun i => rdA σ0 26 (F + i)) R = false) → (R = N → ¬ (N % 4 = 1 ∧ 8 < N)) → vl_X9_readsSteppe_45 fr n (post_X9_readsSteppe fr n F N σ0) (k + 1) 0 σ := by
    intro k R σ hs h4 hRN hall hno hend
    refine ⟨fun _ => ⟨Or.inl rfl, hs, Or.inr ⟨rfl, ?_⟩⟩, fun z => absurd rfl z⟩
    have hff : ffR F N σ0 = R := by
      unfold ffR ffN
      have hfind : findF (fun i => !goN (fun i => rdA σ0 26 (F + i)) i) N 0 = R := findF_is hRN (fun y hy => by rw [hall y hy]; rfl) (fun h => by rw [hno h]; rfl)
      rw [hfind]
      by_cases c : R < N
      · rw [if_pos c]
      · have : R = N := by omega
        rw [if_neg c, if_neg (hend this), this]
    rw [hff]
    exact ⟨by omega, h4⟩
  have loop : ∀ k P (σ : S_), P + k = 7 → sameT σ0 σ → atP F N P σ → rdI σ 4 = nI (4 * P + 1) → vl_X9_readsSteppe_45 fr n (post_X9_readsSteppe fr n F N σ0) (k + 2) 1 σ := by
    intro k
    induction k with
    | zero =>
      intro P σ hk hs hat h4
      exact absurd hat.2.1 (by omega)
    | succ k ih =>
      intro P σ hk hs hat h4
      obtain ⟨a1, a2, a3, a4, a5⟩ := hat
      have e26 : rdA σ 26 = rdA σ0 26 := hs.2 26 (by omega)
      have hcall : (N = 4 * P + 1 → P < 2) → ∃ g21 : Nat, ∃ g22 : Nat, ∃ g23 : Nat, (pre_X9_readsPerson fr n g21 g22 g23 σ) ∧ (∀ (r25 : Int32) (σ24 : S_), post_X9_readsPerson fr n g21 g22 g23 σ r25 σ24 → (vl_X9_readsSteppe_45 fr n (post_X9_readsSteppe fr n F N σ0) (k + 2) r25 σ24)) := by
        intro hlast
        refine ⟨F, N, P, ⟨⟨hf, hn, hFN, h4, a1⟩, hN60, a1, a2, a3, a4, a5⟩, ?_⟩
        rintro r25 σ24 ⟨hs2, h⟩
        have e26' : rdA σ24 26 = rdA σ0 26 := (hs2.2 26 (by omega)).trans e26
        rcases h with ⟨rfl, h1, h2⟩ | ⟨rfl, R, h1, h2, h3, h3', h5, h6⟩
        · exact ih (P + 1) σ24 (by omega) (hs.tr hs2) h1 h2
        · refine exit0 (k + 1) R σ24 (hs.tr hs2) h1 h2 ?_ ?_ (fun hRN => ?_)
          · rw [e26'] at h5; exact h5
          · rw [e26'] at h6; exact h6
          · rintro ⟨z1, z2⟩
            have : N = 4 * P + 1 := by omega
            have := hlast this
            omega
      refine ⟨fun z => absurd z (by decide), fun _ => ⟨fun h2 => hcall ?_, fun h2 => ⟨fun h3 => ?_, fun h3 => hcall ?_⟩⟩⟩
      · rw [a4, show (2 : Int32) = nI 2 from rfl, z_lt (by omega) (by decide)] at h2
        exact fun _ => h2
      · rw [a4, show (2 : Int32) = nI 2 from rfl, z_lt (by omega) (by decide)] at h2
        rw [hn, h4, z_le (by omega) (by omega)] at h3
        have hN : N = 4 * P + 1 := by omega
        refine ⟨Or.inr rfl, hs, Or.inl ⟨rfl, P, by omega, hN, ⟨a1, a2, a3, a4, a5⟩, ?_⟩⟩
        unfold ffR ffN
        have hfind : findF (fun i => !goN (fun i => rdA σ0 26 (F + i)) i) N 0 = N := findF_is (Nat.le_refl N) (fun y hy => by rw [← e26, a3 y (by omega)]; rfl) (fun h => absurd h (Nat.lt_irrefl N))
        rw [hfind, if_neg (Nat.lt_irrefl N), if_pos (by omega)]
      · rw [hn, h4, z_le (by omega) (by omega)] at h3
        exact fun z => by omega
  rintro σ1 rfl
  rintro σ3 rfl
  have hr3 : rdrOK fr n F N 0 (wrI (wrI σ0 4 0) 5 0) := ⟨hf, hn, hFN, rfl, Nat.zero_le _⟩
  refine ⟨F, N, 0, hr3, ?_⟩
  rintro r8 h8
  have h8' : r8 = cdR F N 0 (wrI (wrI σ0 4 0) 5 0) := h8
  have hs3 : ∀ v : Int32, sameT σ0 (wrI (wrI (wrI σ0 4 0) 5 0) 4 v) := fun v => ⟨fun x hx hx2 => by rw [rI_ne _ _ hx, rI_ne _ _ hx2, rI_ne _ _ hx], fun _ _ => rfl⟩
  have go0 : ∀ c : Int32, goesP (nI 0) c = (c = 115) := fun c => by show (if _ then _ else _) = _; rw [if_pos (by decide)]
  by_cases c : r8 = 115
  · have hN : 0 < N := by
      by_cases c2 : 0 < N
      · exact c2
      · unfold cdR at h8'; rw [if_neg c2, c] at h8'; exact absurd h8' (by decide)
    have hc : rdA σ0 26 (F + 0) = 115 := by unfold cdR at h8'; rw [if_pos hN] at h8'; rw [← c]; exact h8'.symm
    refine ⟨fun b => b = 1, ⟨fun z => absurd c z, fun _ => rfl⟩, ?_⟩
    rintro b11 rfl
    refine ⟨fun b => b = 1, ⟨fun z => absurd z (by decide), fun _ => rfl⟩, ?_⟩
    rintro b15 rfl
    rintro σ17 rfl
    refine ⟨7 + 2, loop 7 0 _ rfl (hs3 _) ⟨by omega, by decide, fun i hi => ?_, rfl, fun p hp => absurd hp (Nat.not_lt_zero p)⟩ ?_⟩
    · have : i = 0 := by omega
      rw [this]; exact goN_t (by rw [go0]; exact hc)
    · rw [rI_same]; rfl
  · refine ⟨fun b => b = 0, ⟨fun _ => rfl, fun z => absurd z c⟩, ?_⟩
    rintro b11 rfl
    refine ⟨fun b => b = 0, ⟨fun _ => rfl, fun z => absurd rfl z⟩, ?_⟩
    rintro b15 rfl
    rintro σ17 rfl
    refine ⟨0 + 1, exit0 0 0 _ (hs3 _) ?_ (Nat.zero_le _) (fun i hi => absurd hi (Nat.not_lt_zero i)) (fun hN => goN_f ?_) (fun z => by omega)⟩
    · rw [rI_same]; rfl
    · rw [go0]
      unfold cdR at h8'; rw [if_pos hN] at h8'
      intro z; exact c (h8'.trans z)
