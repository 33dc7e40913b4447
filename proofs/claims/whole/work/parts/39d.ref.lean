theorem bar_no {a : AS} {k : Nat} {lane i n : Int32} (hw : aSz a k ≤ 61) (h : barF a k lane i n = 0) : ∃ I N : Nat, i = nI I ∧ n = nI N ∧ I + N + 1 ≤ aSz a k ∧ I < 100 ∧ N < 100 := by
  unfold barF at h
  by_cases c : ¬ aSz a k = 0 ∧ ¬ nI (aLane a k) = lane
  · rw [if_pos c] at h; exact absurd h (by decide)
  · rw [if_neg c] at h
    by_cases c1 : aSz a k = 0
    · rw [if_pos c1] at h; exact absurd h (by decide)
    · rw [if_neg c1] at h
      by_cases c2 : n < 0
      · rw [if_pos c2] at h; exact absurd h (by decide)
      · rw [if_neg c2] at h
        by_cases c3 : 0 ≤ i ∧ i.toInt + n.toInt ≤ ((aSz a k - 1 : Nat) : Int)
        · obtain ⟨I, hI, rfl⟩ := nI_of (x := i) (Int32.not_lt.mpr c3.1)
          obtain ⟨N, hN, rfl⟩ := nI_of c2
          have q := c3.2
          rw [nI_T hI, nI_T hN] at q
          exact ⟨I, N, rfl, rfl, by omega, by omega, by omega⟩
        · rw [if_neg c3] at h; exact absurd h (by decide)
theorem bar_le (a : AS) (k : Nat) (lane i n : Int32) : barF a k lane i n ≤ 4 := by
  unfold barF; split
  · decide
  · split
    · decide
    · split
      · decide
      · split <;> decide
theorem m10 : ∀ v : Nat, v < 5 → ¬ v = 0 → ¬ (0 : Int32) ≤ -10 - nI v := by decide +kernel
theorem sp_X9_plan : Sp_X9_plan := by
  intro season sh lane i n a σ hp
  have hR : RR a σ := hp
  have hl := rr_le hR
  have flt : ∀ v : Nat, v ≤ 4 → RR (setN a 7 v) (wrI σ 0 (nI v)) := fun v hv => rr_flt hR hv
  refine ⟨fun h => ⟨fun h2 => ?_, fun h2 => ⟨fun h3 => ⟨fun h4 => ?_, fun h4 => ?_⟩, fun h3 => ?_⟩⟩, fun h => ?_⟩
  · rw [noSh] at h; rw [in3] at h2
    have g : ¬ ¬ inR sh 4 := fun z => z h
    have g2 : ¬ (inR lane 3 ∧ inR season 40) := fun z => h2 z.1
    rintro r2 σ1 ⟨q1, q2⟩
    exact ⟨by unfold res_plan; rw [if_neg g, if_pos g2]; exact q1, by unfold nxt_plan; rw [if_neg g, if_pos g2, q2]; exact flt 0 (by decide)⟩
  · rw [noSh] at h; rw [in3, Classical.not_not] at h2; rw [isSe, Classical.not_not] at h3; rw [rr_P hR, z0 (by omega)] at h4
    have g : ¬ ¬ inR sh 4 := fun z => z h
    have g2 : ¬ ¬ (inR lane 3 ∧ inR season 40) := fun z => z ⟨h2, h3⟩
    obtain ⟨k, hk, rfl⟩ := (inR_iff (n := 4) (by decide)).mp h
    obtain ⟨s, hs, rfl⟩ := (inR_iff (n := 40) (by decide)).mp h3
    have tk : toN (nI k) = k := z_cl (by omega)
    have ts : toN (nI s) = s := z_cl (by omega)
    have ws := wf_s hR.1 hk
    have en : nxt_plan (nI s) (nI k) lane i n a = setN a 7 (barF a k lane i n) := by unfold nxt_plan; rw [if_neg g, if_neg g2, if_neg h4, tk]
    refine ⟨a, k, n, ⟨hR, rfl, hk, rfl⟩, fun r7 σ6 h7 => ?_⟩
    unfold post_X9_cellsBarred at h7
    have hb4 := bar_le a k lane i n
    by_cases c : barF a k lane i n = 0
    · rw [if_pos c] at h7
      obtain ⟨rfl, rfl⟩ := h7
      rw [c] at en
      refine ⟨fun _ => ?_, fun z => absurd (by decide) z⟩
      obtain ⟨I, N, rfl, rfl, hIN, hI1, hN1⟩ := bar_no ws.1 c
      have tI : toN (nI I) = I := z_cl (by omega)
      have tN : toN (nI N) = N := z_cl (by omega)
      have eres : res_plan (nI s) (nI k) lane (nI I) (nI N) a = if 40 < s + N then -2 else if allB (fun x => decide (inR (aCell a k (I + x)) 6)) N = false then -1 else ifI (planF a s k I N = N) (-9) (nI (planF a s k I N)) := by
        unfold res_plan; rw [if_neg g, if_neg g2, if_neg h4, tk, if_neg (fun z => z c), ts, tI, tN]
      have hcell : ∀ x, x < N → rdA σ6 26 (60 * k + I + x) = aCell a k (I + x) := fun x hx => by
        have := (rr_s hR hk).2.2 (I + x) (by omega)
        rw [← this, Nat.add_assoc]
      rw [nI_add, lim40, z_le (by omega) (by decide)]
      refine ⟨fun h5 => ?_, fun h5 => ?_⟩
      · rw [if_neg (by omega)] at eres
        have l2 : (∀ x, x < N → inR (aCell a k (I + x)) 6) → ∀ m x (σ' : S_), x + m = N → sameR σ6 σ' → (∀ y, y < x → banB a (toN (aCell a k (I + y))) (s + y) = false) → vl_X9_plan_136 (nI s) (nI k) (nI I) (nI N) (post_X9_plan (nI s) (nI k) lane (nI I) (nI N) a σ6) (m + 1) (nI x) σ' := by
          intro hall m
          have ea : allB (fun x => decide (inR (aCell a k (I + x)) 6)) N = true := allB_iff.mpr (fun x hx => decide_eq_true (hall x hx))
          rw [if_neg (by rw [ea]; exact Bool.noConfusion)] at eres
          induction m with
          | zero =>
            intro x σ' hx hs' hno
            have : x = N := by omega
            subst this
            refine ⟨fun _ => ?_, fun h => absurd (by rw [z_le (by omega) (by omega)]; omega) h⟩
            rintro r12 σ11 ⟨rfl, rfl⟩
            refine ⟨?_, ?_⟩
            · rw [eres, ifI_t]; exact findF_is (Nat.le_refl _) hno (fun h => absurd h (Nat.lt_irrefl _))
            · rw [en]; exact rr_flt (hs'.rr hR) (by decide)
          | succ m ih =>
            intro x σ' hx hs' hno
            obtain ⟨x1, x2⟩ := ix60' hk (show I + x < 60 by omega)
            obtain ⟨d, hd, ed⟩ := (inR_iff (n := 6) (by decide)).mp (hall x (by omega))
            have ec : rdA σ' 26 (60 * k + I + x) = nI d := by rw [hs'.2 26 (by omega), hcell x (by omega), ed]
            have etd : toN (aCell a k (I + x)) = d := by rw [ed]; exact z_cl (by omega)
            refine ⟨fun h => ?_, fun _ => ⟨x1, ?_⟩⟩
            · rw [z_le (by omega) (by omega)] at h; omega
            · rw [x2, ec, nI_add]
              refine ⟨a, d, s + x, ⟨hs'.rr hR, ⟨rfl, hd⟩, ⟨rfl, by omega⟩⟩, fun r17 σ16 h17 => ⟨fun e => ?_, fun e => ?_⟩⟩
              · rw [h17.1, b2i_0, Bool.not_eq_true] at e
                rw [nI_1]
                refine ih (x + 1) σ16 (by omega) (hs'.tr h17.2) (fun y hy => ?_)
                by_cases q : y = x
                · rw [q, etd]; exact e
                · exact hno y (by omega)
              · rw [h17.1, b2i_0, Classical.not_not] at e
                rintro r19 σ18 ⟨rfl, rfl⟩
                refine ⟨?_, ?_⟩
                · have : planF a s k I N = x := findF_is (by omega) hno (fun _ => by rw [etd]; exact e)
                  rw [eres, this, ifI_f (by omega)]
                · rw [en]; exact rr_flt ((hs'.tr h17.2).rr hR) (by decide)
        have l1 : ∀ m x, x + m = N → (∀ y, y < x → inR (aCell a k (I + y)) 6) → vl_X9_plan_93 (nI s) (nI k) (nI I) (nI N) σ6 (post_X9_plan (nI s) (nI k) lane (nI I) (nI N) a σ6) (m + 1) (nI x) := by
          intro m
          induction m with
          | zero =>
            intro x hx hall
            have : x = N := by omega
            subst this
            exact ⟨fun _ => ⟨x + 1, l2 hall x 0 σ6 (by omega) (rf_sameR _) (fun y hy => absurd hy (Nat.not_lt_zero y))⟩, fun h => absurd (by rw [z_le (by omega) (by omega)]; omega) h⟩
          | succ m ih =>
            intro x hx hall
            obtain ⟨x1, x2⟩ := ix60' hk (show I + x < 60 by omega)
            refine ⟨fun h => ?_, fun _ => ⟨x1, ?_⟩⟩
            · rw [z_le (by omega) (by omega)] at h; omega
            · rw [x2, hcell x (by omega), noD]
              refine ⟨fun e => ?_, fun e => ?_⟩
              · rw [nI_1]
                refine ih (x + 1) (by omega) (fun y hy => ?_)
                by_cases q : y = x
                · rw [q]; exact e
                · exact hall y (by omega)
              · rintro r23 σ22 ⟨rfl, rfl⟩
                refine ⟨?_, ?_⟩
                · rw [eres, if_pos (allB_no (i := x) (by omega) (decide_eq_false e))]
                · rw [en]; exact flt 0 (by decide)
        exact ⟨N + 1, l1 N 0 (by omega) (fun y hy => absurd hy (Nat.not_lt_zero y))⟩
      · rintro r27 σ26 ⟨rfl, rfl⟩
        exact ⟨by rw [eres, if_pos (by omega)], by rw [en]; exact flt 0 (by decide)⟩
    · rw [if_neg c] at h7
      obtain ⟨rfl, rfl⟩ := h7
      refine ⟨fun z => absurd z (m10 _ (by omega) c), fun _ => ⟨?_, ?_⟩⟩
      · unfold res_plan; rw [if_neg g, if_neg g2, if_neg h4, tk, if_pos c]
      · rw [en]; exact flt _ hb4
  · rw [noSh] at h; rw [in3, Classical.not_not] at h2; rw [isSe, Classical.not_not] at h3; rw [rr_P hR, z0 (by omega)] at h4
    have g : ¬ ¬ inR sh 4 := fun z => z h
    have g2 : ¬ ¬ (inR lane 3 ∧ inR season 40) := fun z => z ⟨h2, h3⟩
    rintro r2 σ1 ⟨q1, q2⟩
    exact ⟨by unfold res_plan; rw [if_neg g, if_neg g2, if_pos h4]; exact q1, by unfold nxt_plan; rw [if_neg g, if_neg g2, if_pos h4, q2]; exact flt 0 (by decide)⟩
  · rw [noSh] at h; rw [isSe] at h3
    have g : ¬ ¬ inR sh 4 := fun z => z h
    have g2 : ¬ (inR lane 3 ∧ inR season 40) := fun z => h3 z.2
    rintro r2 σ1 ⟨q1, q2⟩
    exact ⟨by unfold res_plan; rw [if_neg g, if_pos g2]; exact q1, by unfold nxt_plan; rw [if_neg g, if_pos g2, q2]; exact flt 0 (by decide)⟩
  · rw [noSh] at h
    rintro r2 σ1 ⟨q1, q2⟩
    exact ⟨by unfold res_plan; rw [if_pos h]; exact q1, by unfold nxt_plan; rw [if_pos h, q2]; exact flt 0 (by decide)⟩
theorem sp_X9_codeAt : Sp_X9_codeAt := by
  intro fr n F N R σ hp
  obtain ⟨rfl, rfl, hFN, hR, hRN⟩ := hp
  unfold vc_X9_codeAt
  rw [hR, z_le (by omega) (by omega), nI_add]
  refine ⟨fun h => ?_, fun h => ⟨z_in (by omega) (by decide), ?_⟩⟩
  · show _ = cdR F N R σ
    unfold cdR; rw [if_neg (by omega)]
  · show _ = cdR F N R σ
    unfold cdR; rw [if_pos (by omega), z_cl (by omega)]
theorem sub48 (r : Int32) (v : Nat) : r - 48 = nI v ↔ r = nI (48 + v) := by
  constructor
  · intro e
    have : r = r - 48 + 48 := (Int32.sub_add_cancel _ _).symm
    rw [this, e]; show nI v + nI 48 = _; rw [nI_add, Nat.add_comm]
  · intro e
    rw [e]; show nI (48 + v) - nI 48 = _; rw [pk_sub (by omega), Nat.add_sub_cancel_left]
theorem figI (r : Int32) {l h : Nat} (hh : h ≤ 9) (hl : l ≤ 9) : (fn_X9_in (r - 48).toInt64 (nI l).toInt64 (nI h).toInt64 = 0 ∧ ∀ v : Nat, l ≤ v → v ≤ h → ¬ r = nI (48 + v)) ∨ (¬ fn_X9_in (r - 48).toInt64 (nI l).toInt64 (nI h).toInt64 = 0 ∧ ∃ v : Nat, l ≤ v ∧ v ≤ h ∧ r = nI (48 + v) ∧ r - 48 = nI v) := by
  rw [b2i_0, Int64.le_iff_toInt_le, Int64.le_iff_toInt_le, i64_T, i64_T, i64_T, nI_T (show l < 2147483648 by omega), nI_T (show h < 2147483648 by omega)]
  by_cases c : (l : Int) ≤ (r - 48).toInt ∧ (r - 48).toInt ≤ (h : Int)
  · obtain ⟨v, hv, e, et⟩ := nI_ofT (x := r - 48) (by omega)
    rw [et] at c
    exact Or.inr ⟨fun z => z (by rw [et]; exact c), v, by omega, by omega, (sub48 r v).mp e, e⟩
  · refine Or.inl ⟨c, fun v h1 h2 e => c ?_⟩
    rw [(sub48 r v).mpr e, nI_T (by omega)]
    omega
theorem sp_X9_figure : Sp_X9_figure := by
  intro fr n lo hi F N R l h σ hp
  obtain ⟨hr, rfl, rfl, hh, hl⟩ := hp
  refine ⟨F, N, R, hr, ?_⟩
  rintro r4 rfl
  rintro x5 rfl
  have hR : rdI σ 4 = nI R := hr.2.2.2.1
  rcases figI (cdR F N R σ) hh hl with ⟨c1, c2⟩ | ⟨c1, v, c2, c3, c4, c5⟩
  · refine ⟨fun b => b = 0, ⟨fun _ => rfl, fun z => absurd c1 z⟩, ?_⟩
    rintro b8 rfl
    rintro σ10 rfl
    refine ⟨fun _ => Or.inr ⟨c2, rfl, ?_⟩, fun z => absurd c1 z⟩
    rw [hR, show (0 : Int32) = nI 0 from rfl, nI_add, Nat.add_zero]
  · refine ⟨fun b => b = 1, ⟨fun z => absurd z c1, fun _ => rfl⟩, ?_⟩
    rintro b8 rfl
    rintro σ10 rfl
    have hRN : R < N := by
      by_cases c : R < N
      · exact c
      · exfalso
        unfold cdR at c4; rw [if_neg c] at c4
        have k : ∀ v, v < 10 → ¬ (-9 : Int32) = nI (48 + v) := by decide +kernel
        exact k v (by omega) c4
    refine ⟨fun z => absurd z c1, fun _ => Or.inl ⟨v, hRN, c2, c3, ?_, c5, ?_⟩⟩
    · rw [← c4]; unfold cdR; rw [if_pos hRN]
    · rw [hR, nI_1]
