theorem sp_X9_sheet : Sp_X9_sheet := by
  intro k lane n a σ hp
  have hR : RR a σ := hp
  have flt : ∀ v : Nat, v ≤ 4 → RR (setN a 7 v) (wrI σ 0 (nI v)) := fun v hv => rr_flt hR hv
  refine ⟨fun h => ⟨fun h2 => ?_, fun h2 => ⟨fun h3 => ⟨fun h4 => ?_, fun h4 => ?_⟩, fun h3 => ?_⟩⟩, fun h => ?_⟩
  · rw [noSh] at h; rw [in3] at h2
    have g : ¬ ¬ inR k 4 := fun z => z h
    rintro r2 σ1 ⟨q1, q2⟩
    exact ⟨by unfold res_sheet; rw [if_neg g, if_pos (Or.inl h2)]; exact q1, by unfold nxt_sheet; rw [if_neg g, if_pos (Or.inl h2), q2]; exact flt 0 (by decide)⟩
  · rw [noSh] at h; rw [in3, Classical.not_not] at h2
    have g : ¬ ¬ inR k 4 := fun z => z h
    obtain ⟨N, hN, rfl⟩ := nI_of (x := n) (Int32.not_lt.mpr h4)
    rw [show (60 : Int32) = nI 60 from rfl, z_le hN (by decide)] at h3
    have g2 : ¬ (¬ inR lane 3 ∨ 60 < nI N) := fun z => z.elim (fun z => z h2) (fun z => by rw [show (60 : Int32) = nI 60 from rfl, z_lt (by decide) hN] at z; omega)
    have g3 : ¬ nI N < 0 := Int32.not_lt.mpr h4
    obtain ⟨q, hq, rfl⟩ := (inR_iff (n := 4) (by decide)).mp h
    obtain ⟨l, hll, rfl⟩ := (inR_iff (n := 3) (by decide)).mp h2
    have ht : toN (nI q) = q := z_cl (by omega)
    have htl : toN (nI l) = l := z_cl (by omega)
    have htn : toN (nI N) = N := z_cl (by omega)
    have ht' : Int32.toNatClampNeg (nI q) = q := ht
    have hin : vp_in (nI q) 4 := z_in (by omega) (by decide)
    have er : res_sheet (nI q) (nI l) (nI N) a = 1 := by unfold res_sheet; rw [if_neg g, if_neg g2, if_neg g3]
    have en : nxt_sheet (nI q) (nI l) (nI N) a = setC (set2 (set2 (setN a 7 0) 16 q (N + 1)) 17 q l) q (fun _ => 0) := by unfold nxt_sheet; rw [if_neg g, if_neg g2, if_neg g3, ht, htl, htn]
    refine ⟨hin, ?_⟩
    rw [ht']
    rintro σ3 rfl
    refine ⟨hin, ?_⟩
    rintro σ5 rfl
    have key : ∀ m x (σ' : S_), x + m = N → (∀ y, rdI σ' y = rdI σ y) → (∀ j, ¬ j = 26 → rdA σ' j = rdA (wr2 (wr2 σ 24 q (nI N)) 25 q (nI l)) j) → (∀ y, y < x → rdA σ' 26 (60 * q + y) = 0) → (∀ y, (y < 60 * q ∨ 60 * q + 60 ≤ y) → rdA σ' 26 y = rdA σ 26 y) → vl_X9_sheet_65 (nI q) (nI N) (post_X9_sheet (nI q) (nI l) (nI N) a σ) (m + 1) (nI x) σ' := by
      intro m
      induction m with
      | zero =>
        intro x σ' hx hI hA h0 hsame
        have : x = N := by omega
        subst this
        refine ⟨fun _ => ?_, fun h => absurd (by rw [z_le (by omega) (by omega)]; omega) h⟩
        rintro r10 σ9 ⟨rfl, rfl⟩
        refine ⟨er.symm, ?_⟩
        rw [en]
        refine rr_sh hR (f := 0) (by decide) rfl (fun j hj => ?_) rfl rfl (fun y hy => (rI_ne _ _ hy).trans (hI y)) (fun j hj => ?_) (fun y hy => ?_)
        · show va_up (va_up a.2.1 16 _) 17 _ j = _
          unfold va_up; rw [if_neg (by omega), if_neg (by omega)]
        · rw [rA_wI, hA j (by omega), rA_w2n _ _ _ _ _ (by omega), rA_w2n _ _ _ _ _ (by omega)]
        · have ws := wf_s hR.1 hy
          obtain ⟨s1, s2, s3⟩ := rr_s hR hy
          rw [rA_wI, rA_wI, rA_wI, hA 24 (by decide), hA 25 (by decide), rA_w2n _ _ _ _ _ (by decide), rA_w2s, rA_w2s, rA_w2n _ _ _ _ _ (by decide)]
          have eS : aSz (setC (set2 (set2 (setN a 7 0) 16 q (x + 1)) 17 q l) q (fun _ => 0)) y = if y = q then x + 1 else aSz a y := rfl
          have eL : aLane (setC (set2 (set2 (setN a 7 0) 16 q (x + 1)) 17 q l) q (fun _ => 0)) y = if y = q then l else aLane a y := rfl
          have eC : ∀ i, aCell (setC (set2 (set2 (setN a 7 0) 16 q (x + 1)) 17 q l) q (fun _ => 0)) y i = (if y = q then (fun _ => 0) else aCell a y) i := fun _ => rfl
          rw [eS, eL]
          by_cases c : y = q
          · rw [if_pos c, if_pos c, if_pos c, if_pos c]
            refine ⟨by omega, hll, by rw [nI_1], fun _ => rfl, fun i hi => ?_⟩
            rw [eC, if_pos c, c]; exact h0 i (by omega)
          · rw [if_neg c, if_neg c, if_neg c, if_neg c]
            refine ⟨ws.1, ws.2, s1, s2, fun i hi => ?_⟩
            rw [eC, if_neg c, hsame _ (by omega)]; exact s3 i hi
      | succ m ih =>
        intro x σ' hx hI hA h0 hsame
        obtain ⟨x1, x2⟩ := ix60 hq (show x < 60 by omega)
        refine ⟨fun h => ?_, fun _ => ⟨x1, ?_⟩⟩
        · rw [z_le (by omega) (by omega)] at h; omega
        · rintro σ11 rfl
          rw [x2, nI_1]
          refine ih (x + 1) _ (by omega) (fun y => (rI_w2 _ _ _ _ _).trans (hI y)) (fun j hj => (rA_w2n _ _ _ _ _ hj).trans (hA j hj)) (fun y hy => ?_) (fun y hy => ?_)
          · rw [rA_w2s]
            by_cases c : y = x
            · rw [c, if_pos rfl]
            · rw [if_neg (by omega)]; exact h0 y (by omega)
          · rw [rA_w2s, if_neg (by omega)]; exact hsame y hy
    exact ⟨N + 1, key N 0 _ (by omega) (fun _ => rfl) (fun _ _ => rfl) (fun y hy => absurd hy (Nat.not_lt_zero y)) (fun y _ => by rw [rA_w2n _ _ _ _ _ (by decide), rA_w2n _ _ _ _ _ (by decide)])⟩
  · rw [noSh] at h; rw [in3, Classical.not_not] at h2
    have g : ¬ ¬ inR k 4 := fun z => z h
    have g2 : ¬ (¬ inR lane 3 ∨ 60 < n) := fun z => z.elim (fun z => z h2) (fun z => absurd h3 (Int32.not_le.mpr z))
    have g3 : n < 0 := Int32.not_le.mp h4
    rintro r2 σ1 ⟨q1, q2⟩
    exact ⟨by unfold res_sheet; rw [if_neg g, if_neg g2, if_pos g3]; exact q1, by unfold nxt_sheet; rw [if_neg g, if_neg g2, if_pos g3, q2]; exact flt 4 (by decide)⟩
  · rw [noSh] at h; rw [in3, Classical.not_not] at h2
    have g : ¬ ¬ inR k 4 := fun z => z h
    have g2 : ¬ inR lane 3 ∨ 60 < n := Or.inr (Int32.not_le.mp h3)
    rintro r2 σ1 ⟨q1, q2⟩
    exact ⟨by unfold res_sheet; rw [if_neg g, if_pos g2]; exact q1, by unfold nxt_sheet; rw [if_neg g, if_pos g2, q2]; exact flt 0 (by decide)⟩
  · rw [noSh] at h
    rintro r2 σ1 ⟨q1, q2⟩
    exact ⟨by unfold res_sheet; rw [if_pos h]; exact q1, by unfold nxt_sheet; rw [if_pos h, q2]; exact flt 0 (by decide)⟩
theorem ix60' {k i x : Nat} (hk : k < 4) (hi : i + x < 60) : vp_in (60 * nI k + nI i + nI x) 240 ∧ Int32.toNatClampNeg (60 * nI k + nI i + nI x) = 60 * k + i + x := by
  have e : 60 * nI k + nI i + nI x = nI (60 * k + i + x) := by rw [show (60 : Int32) = nI 60 from rfl, pk_mul, nI_add, nI_add]
  rw [e]
  exact ⟨z_in (by omega) (by decide), z_cl (by omega)⟩
theorem nI_ofT {x : Int32} (h : 0 ≤ x.toInt) : ∃ n : Nat, n < 2147483648 ∧ x = nI n ∧ x.toInt = n := by
  obtain ⟨n, hn, e⟩ := nI_of (x := x) (by rw [Int32.lt_iff_toInt_lt, show (0 : Int32).toInt = 0 from rfl]; omega)
  exact ⟨n, hn, e, by rw [e, nI_T hn]⟩
theorem sp_X9_copy : Sp_X9_copy := by
  intro k i o j n a σ hp
  have hR : RR a σ := hp
  have flt : ∀ v : Nat, v ≤ 4 → RR (setN a 7 v) (wrI σ 0 (nI v)) := fun v hv => rr_flt hR hv
  have no : ¬ (inR k 4 ∧ inR o 4) → ∀ (r2 : Int32) (σ1 : S_), post_X9_refused (-1) σ r2 σ1 → post_X9_copy k i o j n a σ r2 σ1 := by
    rintro z r2 σ1 ⟨q1, q2⟩
    exact ⟨by unfold res_copy; rw [if_pos z]; exact q1, by unfold nxt_copy; rw [if_pos z, q2]; exact flt 0 (by decide)⟩
  refine ⟨fun h => ?_, fun h => ⟨fun h2 => ?_, fun h2 => ?_⟩⟩
  · rw [noSh] at h; exact no (fun z => h z.1)
  · rw [noSh] at h h2
    have k1 : ¬ ¬ (inR k 4 ∧ inR o 4) := fun z => z ⟨h, h2⟩
    obtain ⟨x, hx, rfl⟩ := (inR_iff (n := 4) (by decide)).mp h
    obtain ⟨y, hy, rfl⟩ := (inR_iff (n := 4) (by decide)).mp h2
    have tx : toN (nI x) = x := z_cl (by omega)
    have ty : toN (nI y) = y := z_cl (by omega)
    have tx' : Int32.toNatClampNeg (nI x) = x := tx
    have ty' : Int32.toNatClampNeg (nI y) = y := ty
    have ix : vp_in (nI x) 4 := z_in (by omega) (by decide)
    have iy : vp_in (nI y) 4 := z_in (by omega) (by decide)
    have wx := wf_s hR.1 hx
    have wy := wf_s hR.1 hy
    have bad : ∀ v : Nat, v ≤ 4 → ¬ v = 0 → copF a x y i j n = v → ∀ (r10 : Int32) (σ9 : S_), post_X9_failed (nI v) σ r10 σ9 → post_X9_copy (nI x) i (nI y) j n a σ r10 σ9 := by
      rintro v hv hv0 e r10 σ9 ⟨q1, q2⟩
      have e0 : ¬ copF a x y i j n = 0 := by rw [e]; exact hv0
      exact ⟨by unfold res_copy; rw [if_neg k1, tx, ty, if_pos e0, e]; exact q1, by unfold nxt_copy; rw [if_neg k1, tx, ty, if_pos e0, e, q2]; exact flt v hv⟩
    refine ⟨ix, ?_⟩
    rw [tx', ty', rr_sz hR hx, rr_sz hR hy, sz_neg hR.1 hx, sz_pos hR.1 hy]
    refine ⟨fun c => bad 1 (by decide) (by decide) (by unfold copF; rw [if_pos (Or.inl c)]), fun c => ⟨iy, fun c2 => ⟨ix, iy, ?_⟩, fun c2 => bad 1 (by decide) (by decide) (by unfold copF; rw [if_pos (Or.inr (Classical.not_not.mp c2))])⟩⟩
    rw [if_neg c, if_neg c2, (rr_s hR hx).2.1 (by omega), (rr_s hR hy).2.1 (by omega), z_eq (by omega) (by omega)]
    have c12 : ¬ (aSz a x = 0 ∨ aSz a y = 0) := fun z => z.elim c c2
    refine ⟨fun el => ⟨ix, fun hb => bad 3 (by decide) (by decide) ?_, fun hb => ⟨iy, fun hb2 => ?_, fun hb2 => bad 3 (by decide) (by decide) ?_⟩⟩, fun el => bad 2 (by decide) (by decide) (by unfold copF; rw [if_neg c12, if_pos el])⟩
    · rw [bey (by omega)] at hb
      unfold copF; rw [if_neg c12, if_neg (fun z => z el), if_neg (fun z => hb ⟨z.1, z.2.2.1, z.2.2.2.1⟩)]
    · rw [bey (by omega)] at hb hb2
      have e0 : copF a x y i j n = 0 := by unfold copF; rw [if_neg c12, if_neg (fun z => z el), if_pos ⟨hb.1, hb2.1, hb.2.1, hb.2.2, hb2.2.2⟩]
      obtain ⟨I, hI, rfl, tI⟩ := nI_ofT hb.1
      obtain ⟨J, hJ, rfl, tJ⟩ := nI_ofT hb2.1
      obtain ⟨N, hN, rfl, tN⟩ := nI_ofT hb.2.1
      have b1 : I + N ≤ aSz a x - 1 := by have := hb.2.2; rw [tI, tN] at this; omega
      have b2 : J + N ≤ aSz a y - 1 := by have := hb2.2.2; rw [tJ, tN] at this; omega
      have er : res_copy (nI x) (nI I) (nI y) (nI J) (nI N) a = nI N := by unfold res_copy; rw [if_neg k1, tx, ty, if_neg (fun z => z e0)]
      have en : nxt_copy (nI x) (nI I) (nI y) (nI J) (nI N) a = setC (setN a 7 0) y (va_cpy (aCell a x) (aCell a y) I J N) := by
        unfold nxt_copy; rw [if_neg k1, tx, ty, if_neg (fun z => z e0), show toN (nI I) = I from z_cl hI, show toN (nI J) = J from z_cl hJ, show toN (nI N) = N from z_cl hN]
      have sx := (rr_s hR hx).2.2
      have l2 : ∀ m p (σ' : S_), p + m = N → (∀ z, rdI σ' z = rdI σ z) → (∀ j, ¬ j = 26 → ¬ j = 27 → rdA σ' j = rdA σ j) → (∀ z, z < N → rdA σ' 27 z = rdA σ 26 (60 * x + I + z)) → (∀ z, rdA σ' 26 z = if 60 * y + J ≤ z ∧ z < 60 * y + J + p then rdA σ 26 (60 * x + I + (z - (60 * y + J))) else rdA σ 26 z) → vl_X9_copy_144 (nI y) (nI J) (nI N) (post_X9_copy (nI x) (nI I) (nI y) (nI J) (nI N) a σ) (m + 1) (nI p) σ' := by
        intro m
        induction m with
        | zero =>
          intro p σ' hp' hI' hA h27 h26
          have : p = N := by omega
          subst this
          refine ⟨fun _ => ?_, fun h => absurd (by rw [z_le (by omega) (by omega)]; omega) h⟩
          rintro r12 σ11 ⟨rfl, rfl⟩
          refine ⟨er.symm, ?_⟩
          rw [en]
          refine rr_sh hR (f := 0) (by decide) rfl (fun _ _ => rfl) rfl rfl (fun y hy => (rI_ne _ _ hy).trans (hI' y)) (fun j hj => by rw [rA_wI]; exact hA j (by omega) (by omega)) (fun z hz => ?_)
          have ws := wf_s hR.1 hz
          obtain ⟨s1, s2, s3⟩ := rr_s hR hz
          rw [rA_wI, rA_wI, rA_wI, hA 24 (by decide) (by decide), hA 25 (by decide) (by decide)]
          refine ⟨ws.1, ws.2, s1, s2, fun w hw => ?_⟩
          have hw' : w + 1 < aSz a z := hw
          rw [h26]
          have eC : aCell (setC (setN a 7 0) y (va_cpy (aCell a x) (aCell a y) I J p)) z w = (if z = y then va_cpy (aCell a x) (aCell a y) I J p else aCell a z) w := rfl
          rw [eC]
          by_cases cz : z = y
          · rw [if_pos cz]
            unfold va_cpy
            by_cases cw : J ≤ w ∧ w < J + p
            · rw [if_pos (by omega), if_pos cw, show 60 * x + I + (60 * z + w - (60 * y + J)) = 60 * x + (I + (w - J)) by omega]
              exact sx _ (by omega)
            · rw [if_neg (by omega), if_neg cw, ← cz]; exact s3 w hw'
          · rw [if_neg cz, if_neg (by omega)]; exact s3 w hw'
        | succ m ih =>
          intro p σ' hp' hI' hA h27 h26
          obtain ⟨x1, x2⟩ := ix60' hy (show J + p < 60 by omega)
          refine ⟨fun h => ?_, fun _ => ⟨z_in (by omega) (by decide), x1, ?_⟩⟩
          · rw [z_le (by omega) (by omega)] at h; omega
          · rintro σ13 rfl
            rw [x2, z_cl (by omega), h27 p (by omega), nI_1]
            refine ih (p + 1) _ (by omega) (fun z => (rI_w2 _ _ _ _ _).trans (hI' z)) (fun j hj hj2 => (rA_w2n _ _ _ _ _ hj).trans (hA j hj hj2)) (fun z hz => by rw [rA_w2n _ _ _ _ _ (by decide)]; exact h27 z hz) (fun z => ?_)
            rw [rA_w2s, h26]
            by_cases c : z = 60 * y + J + p
            · rw [if_pos c, if_pos (by omega), show z - (60 * y + J) = p by omega]
            · rw [if_neg c]
              by_cases c2 : 60 * y + J ≤ z ∧ z < 60 * y + J + p
              · rw [if_pos c2, if_pos (by omega)]
              · rw [if_neg c2, if_neg (by omega)]
      have l1 : ∀ m p (σ' : S_), p + m = N → (∀ z, rdI σ' z = rdI σ z) → (∀ j, ¬ j = 27 → rdA σ' j = rdA σ j) → (∀ z, z < p → rdA σ' 27 z = rdA σ 26 (60 * x + I + z)) → vl_X9_copy_107 (nI x) (nI I) (nI y) (nI J) (nI N) (post_X9_copy (nI x) (nI I) (nI y) (nI J) (nI N) a σ) (m + 1) (nI p) σ' := by
        intro m
        induction m with
        | zero =>
          intro p σ' hp' hI' hA h27
          have : p = N := by omega
          subst this
          refine ⟨fun _ => ⟨p + 1, l2 p 0 σ' (by omega) hI' (fun j _ h2 => hA j h2) h27 (fun z => ?_)⟩, fun h => absurd (by rw [z_le (by omega) (by omega)]; omega) h⟩
          rw [if_neg (by omega), hA 26 (by decide)]
        | succ m ih =>
          intro p σ' hp' hI' hA h27
          obtain ⟨x1, x2⟩ := ix60' hx (show I + p < 60 by omega)
          refine ⟨fun h => ?_, fun _ => ⟨x1, z_in (by omega) (by decide), ?_⟩⟩
          · rw [z_le (by omega) (by omega)] at h; omega
          · rintro σ16 rfl
            rw [x2, z_cl (by omega), hA 26 (by decide), nI_1]
            refine ih (p + 1) _ (by omega) (fun z => (rI_w2 _ _ _ _ _).trans (hI' z)) (fun j hj => (rA_w2n _ _ _ _ _ hj).trans (hA j hj)) (fun z hz => ?_)
            rw [rA_w2s]
            by_cases c : z = p
            · rw [c, if_pos rfl]
            · rw [if_neg c]; exact h27 z (by omega)
      exact ⟨N + 1, l1 N 0 σ (by omega) (fun _ => rfl) (fun _ _ => rfl) (fun z hz => absurd hz (Nat.not_lt_zero z))⟩
    · rw [bey (by omega)] at hb hb2
      unfold copF; rw [if_neg c12, if_neg (fun z => z el), if_neg (fun z => hb2 ⟨z.2.1, z.2.2.1, z.2.2.2.2⟩)]
  · rw [noSh] at h2; exact no (fun z => h2 z.2)
