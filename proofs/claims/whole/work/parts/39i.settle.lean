/-! people settle: what is owed of pure mathematics -/
theorem dig {x : Int32} {lo hi : Nat} (hlo : lo < 2147483648) (hhi : hi < 2147483648) (h1 : nI lo ≤ x) (h2 : x ≤ nI hi) : ∃ j : Nat, lo ≤ j ∧ j ≤ hi ∧ x = nI j := by
  have h0 : ¬ x < 0 := Int32.not_lt.mpr (Int32.le_trans (nI_pos' hlo) h1)
  obtain ⟨j, hj, rfl⟩ := nI_of h0
  rw [z_le hlo hj] at h1
  rw [z_le hj hhi] at h2
  exact ⟨j, h1, h2, rfl⟩
theorem ne9 {n : Nat} (h : n < 2147483648) : ¬ nI n = -9 := fun z => absurd (z ▸ nI_pos' h : (0 : Int32) ≤ -9) (by decide)
theorem go_facts {c : Nat → Int32} {N : Nat} (h : ffN c N = N + 100) : ∃ P : Nat, 2 ≤ P ∧ P ≤ 6 ∧ N = 4 * P + 1 ∧ ∀ p, p < P → (c (4 * p + 2) = 104 ∨ c (4 * p + 2) = 98 ∨ c (4 * p + 2) = 103) ∧ (49 ≤ c (4 * p + 3) ∧ c (4 * p + 3) ≤ 53) ∧ (48 ≤ c (4 * p + 4) ∧ c (4 * p + 4) ≤ 50) := by
  have hle := findF_le (P := fun i => !goN c i) (n := N)
  have hsp := findF_spec (fun i => !goN c i) N 0
  unfold ffN at h
  by_cases c1 : findF (fun i => !goN c i) N 0 < N
  · rw [if_pos c1] at h; omega
  · rw [if_neg c1] at h
    by_cases c2 : N % 4 = 1 ∧ 8 < N
    · have hall : ∀ j, j < N → goesP (nI j) (c j) := fun j hj => by
        have := hsp.2.2.1 j (Nat.zero_le j) (by omega)
        have h2 : goN c j = true := by
          cases e : goN c j with
          | true => rfl
          | false => rw [e] at this; cases this
        exact of_decide_eq_true h2
      have h25 : N ≤ 25 := by
        rcases Nat.lt_or_ge 25 N with q | q
        · have := hall 25 q
          unfold goesP at this
          rw [if_neg (by decide), if_pos (by decide)] at this
          exact this.elim
        · exact q
      refine ⟨N / 4, by omega, by omega, by omega, fun p hp => ?_⟩
      have h2 := hall (4 * p + 2) (by omega)
      have h3 := hall (4 * p + 3) (by omega)
      have h4 := hall (4 * p + 4) (by omega)
      unfold goesP at h2 h3 h4
      have hp6 : p = 0 ∨ p = 1 ∨ p = 2 ∨ p = 3 ∨ p = 4 ∨ p = 5 := by omega
      rcases hp6 with rfl | rfl | rfl | rfl | rfl | rfl <;>
      · rw [if_neg (by decide), if_neg (by decide), if_neg (by decide), if_pos (by decide)] at h2
        rw [if_neg (by decide), if_neg (by decide), if_neg (by decide), if_neg (by decide), if_pos (by decide)] at h3
        rw [if_neg (by decide), if_neg (by decide), if_neg (by decide), if_neg (by decide), if_neg (by decide)] at h4
        exact ⟨h2, h3, h4⟩
    · rw [if_neg c2] at h; omega
theorem at_in {j : Nat} {σ : S_} {L k : Nat} (hL : L ≤ 60) (e : rdI σ (16 + j) = nI L) (hk : k < L) : fn_X5_at j (nI k) σ = rdA σ j k := by
  unfold fn_X5_at
  rw [e, if_pos (one_in rfl hk (by omega))]
  show rdA σ j (Int32.toNatClampNeg (nI k)) = _
  rw [z_cl (by omega)]
theorem hg_old (σ : S_) (g : Nat → Option Nat) (h : HC) {q : Nat} (hq : q < nH σ) : hget (wrP σ g (hs σ ++ [h])) q = hget σ q := by
  show (σ.2.2 ++ [h]).getD q _ = σ.2.2.getD q _
  rw [List.getD_eq_getElem?_getD, List.getD_eq_getElem?_getD, List.getElem?_append_left hq]
theorem hg_new (σ : S_) (g : Nat → Option Nat) (h : HC) : hget (wrP σ g (hs σ ++ [h])) (nH σ) = h := by
  show (σ.2.2 ++ [h]).getD σ.2.2.length _ = h
  rw [List.getD_eq_getElem?_getD, List.getElem?_append_right (Nat.le_refl _), Nat.sub_self]; rfl
theorem sp_X6_settle2 : Sp_X6_settle2 := by
  rintro j fr n F P σ0 ⟨rfl, rfl, hP6, L, hL, eL, hFL⟩
  rintro σd rfl
  refine ⟨by decide, ?_⟩
  rintro σ1 rfl
  have e4 : (nI (4 * P + 1) - 1) / 4 = nI P := by
    rw [show (1 : Int32) = nI 1 from rfl, pk_sub (by omega), show (4 : Int32) = nI 4 from rfl, pk_div (by omega) (by decide) (by decide)]
    congr 1; omega
  have emin : (if 6 < (nI (4 * P + 1) - 1) / 4 then (6 : Int32) else (nI (4 * P + 1) - 1) / 4) = nI P := by
    have h6 : ¬ nI 6 < nI P := by rw [z_lt (by decide) (by omega)]; omega
    rw [e4]
    exact if_neg h6
  rw [emin]
  have key : ∀ m x (σ' : S_), x + m = P → rdI σ' 2 = nI P → (∀ k, ¬ k = 2 → rdI σ' k = rdI σ0 k) → (∀ i, rdA σ' i = rdA σ0 i) → nH σ' = x → (∀ p, p < x → pg σ' p = some (hget σ' p).1 ∧ (hget σ' p).2 = (clsL (rdA σ0 j (F + 4 * p + 2)), nI p, rdA σ0 j (F + 4 * p + 3) - 48, rdA σ0 j (F + 4 * p + 4) - 48)) → vl_X6_settle2_17 j (nI F) (post_X6_settle2 j (nI F) (nI (4 * P + 1)) F P σ0) (m + 1) (nI x) σ' := by
    intro m
    induction m with
    | zero =>
      intro x σ' hx h2 hI hA hH hrow
      have : x = P := by omega
      subst this
      refine ⟨fun _ => ?_, fun h => absurd (by rw [h2]; exact Int32.le_refl _) h⟩
      rintro σ5 rfl
      rintro σ6 rfl
      rintro σ7 rfl
      rintro σ8 rfl
      rintro σ9 rfl
      rintro σ11 rfl
      refine ⟨h2, ⟨rfl, rfl, rfl, rfl, rfl, rfl⟩, fun k hk => ?_, hA, hH, hrow⟩
      rw [rI_ne _ _ (by omega), rI_ne _ _ (by omega), rI_ne _ _ (by omega), rI_ne _ _ (by omega), rI_ne _ _ (by omega), rI_ne _ _ (by omega)]
      exact hI k (by omega)
    | succ m ih =>
      intro x σ' hx h2 hI hA hH hrow
      have e16 : rdI σ' (16 + j) = nI L := (hI _ (by omega)).trans eL
      have ok : shOK j σ' := ⟨L, hL, e16⟩
      have i2 : (nI F + nI x * 4) + 2 = nI (F + 4 * x + 2) := by
        rw [show (4 : Int32) = nI 4 from rfl, pk_mul, nI_add, show (2 : Int32) = nI 2 from rfl, nI_add, Nat.mul_comm x 4]
      have i3 : nI (F + 4 * x + 2) + 1 = nI (F + 4 * x + 3) := nI_1 _
      have i4 : nI (F + 4 * x + 2) + 2 = nI (F + 4 * x + 4) := by
        rw [show (2 : Int32) = nI 2 from rfl, nI_add]
      refine ⟨fun h => ?_, fun _ => ⟨ok, ok, ok, z_in (by omega) (by decide), ?_⟩⟩
      · rw [h2, z_le (by omega) (by omega)] at h; omega
      · intro q σ14 e14
        rw [i2, i3, i4, at_in hL e16 (by omega), at_in hL e16 (by omega), at_in hL e16 (by omega), hA j] at e14
        rw [nI_1]
        have eH : nH σ14 = x + 1 := by
          rw [e14]
          show (hs σ' ++ [_]).length = x + 1
          rw [List.length_append]
          exact congrArg (· + 1) hH
        refine ih (x + 1) σ14 (by omega) (by rw [e14]; exact h2) (fun k hk => by rw [e14]; exact hI k hk) (fun i => by rw [e14]; exact hA i) eH (fun p hp => ?_)
        have epg : ∀ y, pg σ14 y = va_up (pg σ') (Int32.toNatClampNeg (nI x)) (some q) y := fun y => by rw [e14]; rfl
        rw [epg, z_cl (show x < 2147483648 by omega)]
        by_cases e : p = x
        · subst e
          have eg : hget σ14 p = (q, clsL (rdA σ0 j (F + 4 * p + 2)), nI p, rdA σ0 j (F + 4 * p + 3) - 48, rdA σ0 j (F + 4 * p + 4) - 48) := by
            rw [e14]
            unfold bornS
            have := hg_new σ' (va_up (pg σ') (Int32.toNatClampNeg (nI p)) (some q)) (q, clsL (rdA σ0 j (F + 4 * p + 2)), nI p, rdA σ0 j (F + 4 * p + 3) - 48, rdA σ0 j (F + 4 * p + 4) - 48)
            rw [hH] at this
            exact this
          rw [eg]
          exact ⟨if_pos rfl, rfl⟩
        · have eg : hget σ14 p = hget σ' p := by
            rw [e14]
            unfold bornS
            exact hg_old σ' _ _ (by omega)
          rw [eg]
          exact ⟨(if_neg e).trans (hrow p (by omega)).1, (hrow p (by omega)).2⟩
  refine ⟨P + 1, by omega, key P 0 _ (by omega) rfl (fun k hk => ?_) (fun _ => rfl) rfl (fun p hp => absurd hp (Nat.not_lt_zero p))⟩
  exact rI_ne _ _ hk
theorem cls_kcl {x : Int32} (h : x = 104 ∨ x = 98 ∨ x = 103) : clsL x = kcl (kdN x) ∧ kdN x < 3 := by
  rcases h with rfl | rfl | rfl <;> decide
theorem sp_X8_steppe2 : Sp_X8_steppe2 := by
  intro sh lane i n a σ hp
  have hC0 : RC a σ := hp
  rintro σ1 rfl
  have hC : RC (setN a 7 0) (wrI σ 0 0) := rc_flt hC0 (Nat.zero_le 4)
  refine ⟨fun hn => ?_, fun j hj => ?_⟩
  · have := sh_no hn
    exact ⟨by unfold res_steppe; rw [if_pos this], by unfold nxt_steppe; rw [if_pos this]; exact hC⟩
  · obtain ⟨q1, rfl, q3, q4⟩ := sh_so hj
    have k1 : ¬ ¬ inR (nI j) 4 := fun z => z q1
    have ef : fn_X5_faultOfTaking j lane i n (wrI σ 0 0) = nI (barF a j lane i n) := fot_is hC.1.1 hC.2.2.2 q3 lane i n
    have hbl := barF_le a j lane i n
    refine ⟨q3, fun h => ⟨fun h4 => ?_, fun h4 r13 σ12 h12 => ?_⟩, fun h => ?_⟩
    · rw [b2i_0, Classical.not_not] at h
      have k2 : ¬ ¬ inR lane 3 := fun z => z h
      rw [ef, show (0 : Int32) = nI 0 from rfl, z_eq (by omega) (by decide)] at h4
      have k4 : ¬ ¬ barF a j lane i n = 0 := fun z => z h4
      obtain ⟨F, N, rfl, rfl, e3, e4, e5, e6, e7, hrow⟩ := barF_0 hC.1.1 hC.2.2.2 q3 (lane := lane) (i := i) (n := n) h4
      have e3' : F + N ≤ aSz a j - 1 := e3
      have e7' : aSz a j ≤ 61 := e7
      have cell : ∀ x, x < N → rdA (wrI σ 0 0) j (F + x) = aCell a j (F + x) := fun x hx => (hC.2.2.2.2.2 j q3).2.2 _ (by show F + x + 1 < aSz a j; omega)
      have hff : ffN (fun i => rdA (wrI σ 0 0) j (F + i)) N = ffN (fun x => aCell a j (F + x)) N := ffN_c cell
      have eres : res_steppe (nI j) lane (nI F) (nI N) a = if ffN (fun x => aCell a j (F + x)) N = N + 100 then nI ((N - 1) / 4) else -100 - nI (ffN (fun x => aCell a j (F + x)) N) := by
        unfold res_steppe; rw [if_neg k1, if_neg k2, q4, if_neg k4, e4, e5]
      have enxt : nxt_steppe (nI j) lane (nI F) (nI N) a = if ffN (fun x => aCell a j (F + x)) N = N + 100 then newSt a j F N else setN a 7 0 := by
        unfold nxt_steppe; rw [if_neg k1, if_neg k2, q4, if_neg k4, e4, e5]
      have hfl := ffN_le (fun x => aCell a j (F + x)) N
      refine ⟨F, N, hrow, fun r7 h7 => ?_⟩
      have h7' : r7 = ifI (ffN (fun i => rdA (wrI σ 0 0) j (F + i)) N = N + 100) (-9) (nI (ffN (fun i => rdA (wrI σ 0 0) j (F + i)) N)) := h7
      rw [hff] at h7'
      by_cases hf : ffN (fun x => aCell a j (F + x)) N = N + 100
      · rw [ifI_t hf] at h7'
        rw [if_pos hf] at eres enxt
        obtain ⟨P, hP2, hP6, eN, hrows⟩ := go_facts hf
        subst eN
        have eP : (4 * P + 1 - 1) / 4 = P := by omega
        obtain ⟨-, -, L, hL, eL, hFL⟩ := hrow
        refine ⟨fun _ => ⟨F, P, ⟨rfl, rfl, hP6, L, hL, eL, hFL⟩, fun σ10 h10 => ?_⟩, fun z => absurd h7' z⟩
        obtain ⟨b2, ⟨b3, b4, b5, b6, b7, b8⟩, bI, bA, bH, bR⟩ := h10
        refine ⟨by rw [eres, eP]; exact b2, ?_⟩
        rw [enxt]
        have rowp : ∀ p, p < P → (clsL (rdA (wrI σ 0 0) j (F + 4 * p + 2)) = kcl (kdN (aCell a j (F + 4 * p + 2))) ∧ kdN (aCell a j (F + 4 * p + 2)) < 3) ∧ (rdA (wrI σ 0 0) j (F + 4 * p + 3) - 48 = nI (toN (aCell a j (F + 4 * p + 3)) - 48) ∧ 1 ≤ toN (aCell a j (F + 4 * p + 3)) - 48 ∧ toN (aCell a j (F + 4 * p + 3)) - 48 ≤ 5) ∧ (rdA (wrI σ 0 0) j (F + 4 * p + 4) - 48 = nI (toN (aCell a j (F + 4 * p + 4)) - 48) ∧ toN (aCell a j (F + 4 * p + 4)) - 48 < 3) := by
          intro p hp
          obtain ⟨r1, ⟨r2, r3⟩, r4, r5⟩ := hrows p hp
          have c2 := cell (4 * p + 2) (by omega)
          have c3 := cell (4 * p + 3) (by omega)
          have c4 := cell (4 * p + 4) (by omega)
          simp only [← Nat.add_assoc] at c2 c3 c4 r1 r2 r3 r4 r5
          rw [c2, c3, c4]
          obtain ⟨d, d1, d2, d3⟩ := dig (lo := 49) (hi := 53) (by decide) (by decide) r2 r3
          obtain ⟨g, g1, g2, g3⟩ := dig (lo := 48) (hi := 50) (by decide) (by decide) r4 r5
          have td : toN (nI d) = d := z_cl (by omega)
          have tg : toN (nI g) = g := z_cl (by omega)
          rw [d3, g3, td, tg]
          have s1 : nI d - 48 = nI (d - 48) := by rw [show (48 : Int32) = nI 48 from rfl, pk_sub (by omega)]
          have s2 : nI g - 48 = nI (g - 48) := by rw [show (48 : Int32) = nI 48 from rfl, pk_sub (by omega)]
          exact ⟨cls_kcl r1, ⟨s1, by omega, by omega⟩, s2, by omega⟩
        have w := wf_new hC0.1.1 (k := j) (I := F) hP2 hP6 rfl (fun p hp => ⟨(rowp p hp).1.2, (rowp p hp).2.1.2.1, (rowp p hp).2.1.2.2, (rowp p hp).2.2.2⟩)
        have hC2 := hC0.2.2.2
        refine ⟨⟨w, ?_, b5, b6, b7, b8, fun t ht => absurd ht (Nat.not_lt_zero t), fun t ht => absurd ht (Nat.not_lt_zero t), fun t ht => absurd ht (Nat.not_lt_zero t), fun t ht => absurd ht (Nat.not_lt_zero t), ?_, fun p hp => ?_⟩, b3, b4, ?_, ?_, fun k hk => ?_⟩
        · show rdI σ10 2 = nI ((4 * P + 1 - 1) / 4); rw [eP]; exact b2
        · show nH σ10 = (4 * P + 1 - 1) / 4; rw [eP]; exact bH
        · have hp' : p < (4 * P + 1 - 1) / 4 := hp
          have hpP : p < P := by omega
          obtain ⟨u1, u2⟩ := bR p hpP
          obtain ⟨v1, v2, v3⟩ := rowp p hpP
          refine ⟨u1, ?_, ?_, ?_, ?_⟩
          · rw [u2]; exact v1.1
          · rw [u2]
          · rw [u2]; exact v2.1
          · rw [u2]; exact v3.1
        · exact (bI 0 (by omega)).trans rfl
        · exact (bI 1 (by omega)).trans hC2.2.1
        · obtain ⟨y1, y2, y3⟩ := hC2.2.2 k hk
          refine ⟨(bI (12 + k) (by omega)).trans ((rI_ne _ _ (by omega)).trans y1), (bI (16 + k) (by omega)).trans ((rI_ne _ _ (by omega)).trans y2), fun x hx => ?_⟩
          rw [bA]; exact y3 x hx
      · rw [ifI_f hf] at h7'
        rw [if_neg hf] at eres enxt
        refine ⟨fun z => absurd (h7'.symm.trans z) (ne9 (by omega)), fun _ => ⟨?_, ?_⟩⟩
        · rw [eres, h7']
        · rw [enxt]; exact hC
    · rw [b2i_0, Classical.not_not] at h
      have k2 : ¬ ¬ inR lane 3 := fun z => z h
      rw [ef, show (0 : Int32) = nI 0 from rfl, z_eq (by omega) (by decide)] at h4
      rw [ef] at h12
      obtain ⟨g1, g2⟩ := h12
      have g3 := rc_flt hC (v := barF a j lane i n) hbl
      rw [setN_setN] at g3
      exact ⟨by unfold res_steppe; rw [if_neg k1, if_neg k2, q4, if_pos h4]; exact g1, by unfold nxt_steppe; rw [if_neg k1, if_neg k2, q4, if_pos h4, g2]; exact g3⟩
    · rw [b2i_0] at h
      have k2 : ¬ inR lane 3 := h
      exact ⟨by unfold res_steppe; rw [if_neg k1, if_pos k2], by unfold nxt_steppe; rw [if_neg k1, if_pos k2]; exact hC⟩
