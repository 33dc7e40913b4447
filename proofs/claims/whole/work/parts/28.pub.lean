theorem ban_f0 (a : AS) (v d S : Nat) : banB (setN a 7 v) d S = banB a d S := by
  have hr : ∀ T, runR (setN a 7 v) T = runR a T := by
    intro T
    induction T with
    | zero => rfl
    | succ T ihT => rw [runR, runR, ihT, se_flt]
  exact ban_flt hr d S
theorem find_c {P Q : Nat → Bool} : ∀ m i, (∀ x, i ≤ x → x < i + m → P x = Q x) → findF P m i = findF Q m i := by
  intro m
  induction m with
  | zero => intro _ _; rfl
  | succ m ih =>
    intro i h
    rw [findF, findF, h i (Nat.le_refl i) (by omega), ih (i + 1) (fun x h1 h2 => h x (by omega) (by omega))]
theorem sp_X8_plan : Sp_X8_plan := by
  intro season sh lane i n a σ hp
  have hC0 : RC a σ := hp
  have hl := rc_le hC0.1
  rintro σ1 rfl
  have hC : RC (setN a 7 0) (wrI σ 0 0) := rc_flt hC0 (Nat.zero_le 4)
  refine ⟨fun hn => ?_, fun j hj => ?_⟩
  · have := sh_no hn
    exact ⟨by unfold res_plan; rw [if_pos this], by unfold nxt_plan; rw [if_pos this]; exact hC⟩
  · obtain ⟨q1, rfl, q3, q4⟩ := sh_so hj
    have k1 : ¬ ¬ inR (nI j) 4 := fun z => z q1
    have no2 : ¬ (inR lane 3 ∧ inR season 40) → post_X8_plan season (nI j) lane i n a σ (-2) (wrI σ 0 0) := fun z => ⟨by unfold res_plan; rw [if_neg k1, if_pos z], by unfold nxt_plan; rw [if_neg k1, if_pos z]; exact hC⟩
    have ef : fn_X5_faultOfTaking j lane i n (wrI σ 0 0) = nI (barF a j lane i n) := fot_is hC.1.1 hC.2.2.2 q3 lane i n
    have hbl := barF_le a j lane i n
    refine ⟨q3, fun h => ?_, fun h => ⟨fun h2 => ⟨fun h3 => ⟨fun h4 => ?_, fun h4 r17 σ16 h16 => ?_⟩, fun h3 => ?_⟩, fun h2 => ?_⟩⟩
    · rw [b2i_0] at h; exact no2 (fun z => h z.1)
    · rw [b2i_0, Classical.not_not] at h h2
      rw [b2i_0] at h3
      have h0 : ¬ nP a = 0 := fun z => h3 ((nP0 hC.1).mpr z)
      rw [ef, show (0 : Int32) = nI 0 from rfl, z_eq (by omega) (by decide)] at h4
      have k2 : ¬ ¬ (inR lane 3 ∧ inR season 40) := fun z => z ⟨h, h2⟩
      have k4 : ¬ ¬ barF a j lane i n = 0 := fun z => z h4
      obtain ⟨F, N, rfl, rfl, e3, e4, e5, e6, e7, hrow⟩ := barF_0 hC.1.1 hC.2.2.2 q3 (lane := lane) (i := i) (n := n) h4
      have e3' : F + N ≤ aSz a j - 1 := e3
      have e7' : aSz a j ≤ 61 := e7
      obtain ⟨s, hs', rfl⟩ := (inR_iff (n := 40) (by decide)).mp h2
      have ts : toN (nI s) = s := z_cl (by omega)
      have hres : res_plan (nI s) (nI j) lane (nI F) (nI N) a = if 40 < s + N then -2 else if allB (fun x => decide (inR (aCell a j (F + x)) 6)) N = false then -1 else ifI (planF a s j F N = N) (-9) (nI (planF a s j F N)) := by
        unfold res_plan; rw [if_neg k1, if_neg k2, if_neg h0, q4, if_neg k4, ts, e4, e5]
      have hnxt : nxt_plan (nI s) (nI j) lane (nI F) (nI N) a = setN a 7 0 := by
        unfold nxt_plan; rw [if_neg k1, if_neg k2, if_neg h0, q4, h4]
      have cell : ∀ x, x < N → rdA (wrI σ 0 0) j (F + x) = aCell a j (F + x) := fun x hx => (hC.2.2.2.2.2 j q3).2.2 _ (by show F + x + 1 < aSz a j; omega)
      refine ⟨fun h5 => ⟨F, N, hrow, fun r7 h7 => ⟨fun e => ?_, fun e => ?_⟩⟩, fun h5 => ?_⟩
      · rw [show (40 : Int32) = nI 40 from rfl, pk_sub (by omega), z_le (by omega) (by omega)] at h5
        rw [show r7 = _ from h7, b2i_0, Classical.not_not, allB_iff] at e
        have hcd : ∀ x, x < N → ∃ d : Nat, d < 6 ∧ rdA (wrI σ 0 0) j (F + x) = nI d := fun x hx => by
          have q : 0 ≤ rdA (wrI σ 0 0) j (F + x) ∧ rdA (wrI σ 0 0) j (F + x) < 6 := of_decide_eq_true (e x hx)
          exact one_of lim6 (by decide) q
        refine ⟨setN a 7 0, s, F, N, ⟨hC.1, hC.2.1, hC.2.2.1, rfl, hrow, q3, by omega, hs', hcd⟩, fun r13 σ12 h12 => ⟨?_, ?_⟩⟩
        · have hall : ¬ allB (fun x => decide (inR (aCell a j (F + x)) 6)) N = false := by
            have : allB (fun x => decide (inR (aCell a j (F + x)) 6)) N = true := allB_iff.mpr (fun x hx => by
              have q : 0 ≤ rdA (wrI σ 0 0) j (F + x) ∧ rdA (wrI σ 0 0) j (F + x) < 6 := of_decide_eq_true (e x hx)
              rw [cell x hx] at q
              have q2 : inR (aCell a j (F + x)) 6 := q
              exact decide_eq_true q2)
            rw [this]; exact Bool.noConfusion
          rw [hres, if_neg (by omega), if_neg hall, h12.2]
          have hfn : ∀ m i0, i0 + m ≤ N → findF (fun x => banB (setN a 7 0) (toN (rdA (wrI σ 0 0) j (F + x))) (s + x)) m i0 = findF (fun x => banB a (toN (aCell a j (F + x))) (s + x)) m i0 := fun m i0 hi0 => find_c m i0 (fun x _ hx2 => by rw [cell x (by omega), ban_f0])
          rw [hfn N 0 (by omega)]
          unfold planF
          exact Eq.refl _
        · rw [hnxt]; exact h12.1.rc hC
      · rw [show (40 : Int32) = nI 40 from rfl, pk_sub (by omega), z_le (by omega) (by omega)] at h5
        rw [show r7 = _ from h7, b2i_0, Bool.not_eq_true] at e
        have hall : allB (fun x => decide (inR (aCell a j (F + x)) 6)) N = false := by
          apply Bool.eq_false_iff.mpr
          intro hh
          rw [allB_iff] at hh
          have : allB (fun x => decide (0 ≤ rdA (wrI σ 0 0) j (F + x) ∧ rdA (wrI σ 0 0) j (F + x) < 6)) N = true := allB_iff.mpr (fun x hx => by
            have q : inR (aCell a j (F + x)) 6 := of_decide_eq_true (hh x hx)
            have q2 : 0 ≤ aCell a j (F + x) ∧ aCell a j (F + x) < 6 := q
            rw [← cell x hx] at q2
            exact decide_eq_true q2)
          rw [this] at e; cases e
        exact ⟨by rw [hres, if_neg (by omega), if_pos hall], by rw [hnxt]; exact hC⟩
      · rw [show (40 : Int32) = nI 40 from rfl, pk_sub (by omega), z_le (by omega) (by omega)] at h5
        exact ⟨by rw [hres, if_pos (by omega)], by rw [hnxt]; exact hC⟩
    · rw [b2i_0, Classical.not_not] at h h2
      rw [b2i_0] at h3
      have h0 : ¬ nP a = 0 := fun z => h3 ((nP0 hC.1).mpr z)
      rw [ef, show (0 : Int32) = nI 0 from rfl, z_eq (by omega) (by decide)] at h4
      have k2 : ¬ ¬ (inR lane 3 ∧ inR season 40) := fun z => z ⟨h, h2⟩
      rw [ef] at h16
      obtain ⟨g1, g2⟩ := h16
      have g3 := rc_flt hC (v := barF a j lane i n) hbl
      rw [setN_setN] at g3
      exact ⟨by unfold res_plan; rw [if_neg k1, if_neg k2, if_neg h0, q4, if_pos h4]; exact g1, by unfold nxt_plan; rw [if_neg k1, if_neg k2, if_neg h0, q4, g2]; exact g3⟩
    · rw [b2i_0, Classical.not_not] at h h2 h3
      have h0 : nP a = 0 := (nP0 hC.1).mp h3
      have k2 : ¬ ¬ (inR lane 3 ∧ inR season 40) := fun z => z ⟨h, h2⟩
      exact ⟨by unfold res_plan; rw [if_neg k1, if_neg k2, if_pos h0], by unfold nxt_plan; rw [if_neg k1, if_neg k2, if_pos h0]; exact hC⟩
    · rw [b2i_0] at h2; exact no2 (fun z => h2 z.2)
