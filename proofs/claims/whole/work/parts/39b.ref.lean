theorem sp_X9_tell : Sp_X9_tell := by
  intro p a σ hp
  have hR : RR a σ := hp
  have hl := rr_le hR
  refine ⟨fun h => ?_, fun h => ?_⟩
  · rw [noP hR] at h
    have g : ¬ ¬ inR p (nP a) := fun z => z h
    obtain ⟨q, hq, rfl⟩ := (inR_iff (n := nP a) (by omega)).mp h
    have ht : toN (nI q) = q := z_cl (by omega)
    have ht' : Int32.toNatClampNeg (nI q) = q := ht
    have hw := wf_p hR.1 hq
    have hin : vp_in (nI q) 6 := z_in (by omega) (by decide)
    have hm : ∀ {b : AS} {σ' : S_}, RR b σ' → nP b = nP a → aMinds b q = aMinds a q → rdA σ' 2 q = nI (aMinds a q) := fun hr e1 e2 => by rw [← e2]; exact (rr_p hr (by rw [e1]; exact hq)).2.1
    refine ⟨hin, ?_⟩
    rw [ht', (rr_p hR hq).1]
    have hk : aKind a q = 0 ∨ aKind a q = 1 ∨ aKind a q = 2 := by omega
    rcases hk with k | k | k
    · have e1 : res_tell (nI q) a = nI (aMinds a q) := by unfold res_tell; rw [if_neg g, ht, if_pos k]
      have e2 : nxt_tell (nI q) a = setTr a (trA (aTr a) 1) := by unfold nxt_tell; rw [if_neg g, ht, if_pos k]
      rw [k]
      refine ⟨fun _ => ⟨fun _ σ1 h1 => ⟨fun _ => ⟨hin, fun z => absurd rfl z, fun _ => ?_⟩, fun z => absurd z (by decide)⟩, fun z => absurd (by decide) z⟩, fun z => absurd z (by decide)⟩
      have r1 := rr_tr' hR h1
      exact ⟨by rw [e1]; exact hm r1 rfl rfl, by rw [e2]; exact r1⟩
    · have e1 : res_tell (nI q) a = nI (aMinds a q) + 100 := by unfold res_tell; rw [if_neg g, ht, if_neg (by omega), if_pos k]
      have e2 : nxt_tell (nI q) a = setTr a (trA (trA (aTr a) 2) 1) := by unfold nxt_tell; rw [if_neg g, ht, if_neg (by omega), if_pos k]
      rw [k]
      refine ⟨fun _ => ⟨fun z => absurd z (by decide), fun _ σ8 h8 σ9 h9 => ⟨fun _ => ⟨hin, fun _ => ⟨fun z => absurd rfl z, fun _ => ?_⟩, fun z => absurd z (by decide)⟩, fun z => absurd z (by decide)⟩⟩, fun z => absurd z (by decide)⟩
      have r1 := rr_tr' (rr_tr' hR h8) h9
      exact ⟨by rw [e1, hm r1 rfl rfl], by rw [e2]; exact r1⟩
    · have e1 : res_tell (nI q) a = 2 * nI (aMinds a q) + 100 := by unfold res_tell; rw [if_neg g, ht, if_neg (by omega), if_neg (by omega)]
      have e2 : nxt_tell (nI q) a = setTr a (trA (trA (trA (trA (aTr a) 3) 2) 1) 1) := by unfold nxt_tell; rw [if_neg g, ht, if_neg (by omega), if_neg (by omega)]
      rw [k]
      refine ⟨fun z => absurd rfl z, fun _ σ17 h17 => ⟨fun z => absurd z (by decide), fun _ σ25 h25 σ26 h26 => ⟨fun z => absurd rfl z, fun _ σ29 h29 => ⟨hin, fun _ => ⟨fun _ => ?_, fun z => absurd z (by decide)⟩, fun z => absurd z (by decide)⟩⟩⟩⟩
      have r1 := rr_tr' (rr_tr' (rr_tr' (rr_tr' hR h17) h25) h26) h29
      exact ⟨by rw [e1, hm r1 rfl rfl], by rw [e2]; exact r1⟩
  · rw [noP hR] at h
    exact ⟨by unfold res_tell; rw [if_pos h], by unfold nxt_tell; rw [if_pos h]; exact hR⟩
theorem sz_neg {a : AS} (hw : WF a) {k : Nat} (hk : k < 4) : ((if aSz a k = 0 then (-1 : Int32) else nI (aSz a k - 1)) < 0) = (aSz a k = 0) := by
  have := wf_s hw hk
  by_cases c : aSz a k = 0
  · rw [if_pos c]; exact propext ⟨fun _ => c, fun _ => by decide⟩
  · rw [if_neg c, show (0 : Int32) = nI 0 from rfl, z_lt (by omega) (by decide)]
    exact propext ⟨fun z => absurd z (Nat.not_lt_zero _), fun z => absurd z c⟩
theorem sz_pos {a : AS} (hw : WF a) {k : Nat} (hk : k < 4) : ((0 : Int32) ≤ if aSz a k = 0 then (-1 : Int32) else nI (aSz a k - 1)) = ¬ (aSz a k = 0) := by
  rw [← Int32.not_lt, sz_neg hw hk]
theorem sp_X9_lose : Sp_X9_lose := by
  intro k a σ hp
  have hR : RR a σ := hp
  refine ⟨fun h => ?_, fun h => ?_⟩
  · rw [noSh] at h
    have g : ¬ ¬ inR k 4 := fun z => z h
    obtain ⟨q, hq, rfl⟩ := (inR_iff (n := 4) (by decide)).mp h
    have ht : toN (nI q) = q := z_cl (by omega)
    have ht' : Int32.toNatClampNeg (nI q) = q := ht
    have hin : vp_in (nI q) 4 := z_in (by omega) (by decide)
    refine ⟨hin, ?_⟩
    rw [ht', rr_sz hR hq, sz_pos hR.1 hq]
    refine ⟨fun b => b = if aSz a q = 0 then 0 else 1, ⟨fun c => (if_neg c).symm, fun c => (if_pos (Classical.not_not.mp c)).symm⟩, fun b hb => ⟨hin, ?_⟩⟩
    rintro σ5 rfl
    refine ⟨by unfold res_lose; rw [if_neg g, ht]; exact hb, ?_⟩
    have en : nxt_lose (nI q) a = set2 a 16 q 0 := by unfold nxt_lose; rw [if_neg g, ht]
    rw [en]
    have hf : aFault a ≤ 4 := hR.1.2.2.2.2.2.2.2.2.1
    refine rr_sh hR hf (va_up_id a.1 7).symm (fun j hj => ?_) rfl (by rw [rI_w2]; exact rr_F hR) (fun _ _ => rfl) (fun j hj => rA_w2n _ _ _ _ _ (by omega)) (fun x hx => ?_)
    · show va_up a.2.1 16 _ j = _
      unfold va_up; rw [if_neg (by omega)]
    · have ws := wf_s hR.1 hx
      obtain ⟨s1, s2, s3⟩ := rr_s hR hx
      have eS : aSz (set2 a 16 q 0) x = if x = q then 0 else aSz a x := rfl
      have eL : aLane (set2 a 16 q 0) x = aLane a x := rfl
      have eC : ∀ i, aCell (set2 a 16 q 0) x i = aCell a x i := fun _ => rfl
      rw [eS, eL, rA_w2s, rA_w2n _ _ _ _ _ (by decide), rA_w2n _ _ _ _ _ (by decide)]
      by_cases c : x = q
      · rw [if_pos c, if_pos c]
        exact ⟨by decide, ws.2, by decide, fun z => absurd z (by decide), fun i z => absurd z (by omega)⟩
      · rw [if_neg c, if_neg c]
        exact ⟨ws.1, ws.2, s1, s2, s3⟩
  · rw [noSh] at h
    exact ⟨by unfold res_lose; rw [if_pos h], by unfold nxt_lose; rw [if_pos h]; exact hR⟩
theorem ix60 {k i : Nat} (hk : k < 4) (hi : i < 60) : vp_in (60 * nI k + nI i) 240 ∧ Int32.toNatClampNeg (60 * nI k + nI i) = 60 * k + i := by
  have e : 60 * nI k + nI i = nI (60 * k + i) := by rw [show (60 : Int32) = nI 60 from rfl, pk_mul, nI_add]
  rw [e]
  exact ⟨z_in (by omega) (by decide), z_cl (by omega)⟩
theorem sp_X9_put : Sp_X9_put := by
  intro k i v a σ hp
  have hR : RR a σ := hp
  have flt : ∀ v : Nat, v ≤ 4 → RR (setN a 7 v) (wrI σ 0 (nI v)) := fun v hv => rr_flt hR hv
  refine ⟨fun h => ?_, fun h => ?_⟩
  · rw [noSh] at h
    have g : ¬ ¬ inR k 4 := fun z => z h
    obtain ⟨q, hq, rfl⟩ := (inR_iff (n := 4) (by decide)).mp h
    have ht : toN (nI q) = q := z_cl (by omega)
    have ht' : Int32.toNatClampNeg (nI q) = q := ht
    have hin : vp_in (nI q) 4 := z_in (by omega) (by decide)
    have ws := wf_s hR.1 hq
    refine ⟨a, q, ⟨hR, rfl, hq⟩, fun r3 h3 => ?_⟩
    have h3' : r3 = if aSz a q = 0 then 1 else if 0 ≤ i ∧ i < nI (aSz a q - 1) then 0 else 3 := h3
    refine ⟨fun hle => ⟨hin, ?_⟩, fun hgt => ⟨a, q, ⟨hR, rfl, hq⟩, fun r15 h15 => ?_⟩⟩
    · by_cases c : aSz a q = 0
      · rw [h3', if_pos c] at hle; exact absurd hle (by decide)
      · by_cases c2 : 0 ≤ i ∧ i < nI (aSz a q - 1)
        · obtain ⟨i1, hi, rfl⟩ := (inR_iff (n := aSz a q - 1) (by omega)).mp c2
          have hti : toN (nI i1) = i1 := z_cl (by omega)
          obtain ⟨x1, x2⟩ := ix60 hq (show i1 < 60 by omega)
          obtain ⟨s1, s2, s3⟩ := rr_s hR hq
          rw [ht', s2 (by omega), x2, show (0 : Int32) = nI 0 from rfl, z_eq (by omega) (by decide), show (1 : Int32) = nI 1 from rfl, z_eq (by omega) (by decide)]
          refine ⟨fun b => b = cutA (aLane a q) v, ⟨fun e => ⟨hin, fun e2 => ?_, fun e2 => ?_⟩, fun e => ?_⟩, fun b hb => ⟨x1, ?_⟩⟩
          · show v = _; unfold cutA; rw [if_neg e, if_neg e2]
          · show _ = cutA _ _; unfold cutA; rw [if_neg e, if_pos e2]
          · show _ = cutA _ _; unfold cutA; rw [if_pos e]
          · rintro σ9 rfl
            rintro r12 σ11 ⟨rfl, rfl⟩
            have er : res_put (nI q) (nI i1) v a = 1 := by unfold res_put; rw [if_neg g, ht, if_neg c, if_neg (fun z => z c2)]
            have en : nxt_put (nI q) (nI i1) v a = setC (setN a 7 0) q (va_up (aCell a q) i1 (cutA (aLane a q) v)) := by unfold nxt_put; rw [if_neg g, ht, if_neg c, if_neg (fun z => z c2), hti]
            refine ⟨er.symm, ?_⟩
            rw [en]
            refine rr_sh hR (f := 0) (by decide) rfl (fun _ _ => rfl) rfl rfl (fun x hx => rI_ne _ _ hx) (fun j hj => ?_) (fun x hx => ?_)
            · rw [rA_wI]; exact rA_w2n _ _ _ _ _ (by omega)
            · have ws := wf_s hR.1 hx
              obtain ⟨s1, s2, s3⟩ := rr_s hR hx
              rw [rA_wI, rA_wI, rA_wI, rA_w2n _ _ _ _ _ (by decide), rA_w2n _ _ _ _ _ (by decide)]
              refine ⟨ws.1, ws.2, s1, s2, fun y hy => ?_⟩
              have hy' : y + 1 < aSz a x := hy
              rw [rA_w2s]
              have eC : aCell (setC (setN a 7 0) q (va_up (aCell a q) i1 (cutA (aLane a q) v))) x y = (if x = q then va_up (aCell a q) i1 (cutA (aLane a q) v) else aCell a x) y := by
                unfold aCell setC va_up; dsimp only
                by_cases cc : x = q
                · rw [if_pos cc, if_pos cc]
                · rw [if_neg cc, if_neg cc]; rfl
              rw [eC]
              by_cases e1 : x = q
              · rw [if_pos e1, e1]
                unfold va_up
                by_cases e2 : y = i1
                · rw [e2, if_pos rfl, if_pos rfl]; exact hb
                · rw [if_neg (by omega), if_neg e2, ← e1]; exact s3 y hy'
              · rw [if_neg e1, if_neg (by omega)]; exact s3 y hy'
        · rw [h3', if_neg c, if_neg c2] at hle; exact absurd hle (by decide)
    · rintro r17 σ16 ⟨h17, h16⟩
      have h15' : r15 = if aSz a q = 0 then 1 else if 0 ≤ i ∧ i < nI (aSz a q - 1) then 0 else 3 := h15
      by_cases c : aSz a q = 0
      · rw [h15', if_pos c] at h17 h16
        exact ⟨by unfold res_put; rw [if_neg g, ht, if_pos c]; exact h17, by unfold nxt_put; rw [if_neg g, ht, if_pos c, h16]; exact flt 1 (by decide)⟩
      · by_cases c2 : 0 ≤ i ∧ i < nI (aSz a q - 1)
        · rw [h3', if_neg c, if_pos c2] at hgt; exact absurd (by decide) hgt
        · rw [h15', if_neg c, if_neg c2] at h17 h16
          exact ⟨by unfold res_put; rw [if_neg g, ht, if_neg c, if_pos c2]; exact h17, by unfold nxt_put; rw [if_neg g, ht, if_neg c, if_pos c2, h16]; exact flt 3 (by decide)⟩
  · rw [noSh] at h
    rintro r2 σ1 ⟨q1, q2⟩
    exact ⟨by unfold res_put; rw [if_pos h]; exact q1, by unfold nxt_put; rw [if_pos h, q2]; exact flt 0 (by decide)⟩
theorem sp_X9_cell : Sp_X9_cell := by
  intro k i lane a σ hp
  have hR0 : RR a σ := hp
  rintro σ1 rfl
  have hR : RR (setN a 7 0) (wrI σ 0 0) := rr_flt hR0 (v := 0) (by decide)
  have flt : ∀ v : Nat, v ≤ 4 → RR (setN a 7 v) (wrI (wrI σ 0 0) 0 (nI v)) := fun v hv => by
    have := rr_flt hR hv; rw [setN_setN] at this; exact this
  have no : ¬ (inR k 4 ∧ inR lane 3) → post_X9_cell k i lane a σ (-9223372036854775808) (wrI σ 0 0) := fun z => ⟨by unfold res_cell; rw [if_pos z], by unfold nxt_cell; rw [if_pos z]; exact hR⟩
  refine ⟨fun h => ?_, fun h => ⟨fun h2 => ?_, fun h2 => ?_⟩⟩
  · rw [noSh] at h; exact no (fun z => h z.1)
  · rw [noSh] at h; rw [in3, Classical.not_not] at h2
    have g : ¬ ¬ (inR k 4 ∧ inR lane 3) := fun z => z ⟨h, h2⟩
    obtain ⟨q, hq, rfl⟩ := (inR_iff (n := 4) (by decide)).mp h
    have ht : toN (nI q) = q := z_cl (by omega)
    have ht' : Int32.toNatClampNeg (nI q) = q := ht
    have hin : vp_in (nI q) 4 := z_in (by omega) (by decide)
    have ws := wf_s hR0.1 hq
    have bad : ∀ v : Nat, v ≤ 4 → ¬ v = 0 → celF a q lane i = v → ∀ (r10 : Int64) (σ9 : S_), post_X9_failedLong (nI v) (wrI σ 0 0) r10 σ9 → post_X9_cell (nI q) i lane a σ r10 σ9 := by
      rintro v hv hv0 e r10 σ9 ⟨q1, q2⟩
      have e0 : ¬ celF a q lane i = 0 := by rw [e]; exact hv0
      exact ⟨by unfold res_cell; rw [if_neg g, ht, if_pos e0]; exact q1, by unfold nxt_cell; rw [if_neg g, ht, e, q2]; exact flt v hv⟩
    have eSz : aSz (setN a 7 0) q = aSz a q := rfl
    refine ⟨hin, ?_⟩
    rw [ht', rr_sz hR hq, eSz, sz_neg hR0.1 hq]
    refine ⟨fun c => ⟨setN a 7 0, q, ⟨hR, rfl, hq⟩, fun r5 h5 => ?_⟩, fun c => ⟨hin, ?_⟩⟩
    · have h5' : r5 = if aSz a q = 0 then 1 else if 0 ≤ i ∧ i < nI (aSz a q - 1) then 0 else 3 := h5
      rw [if_pos c] at h5'
      refine ⟨fun z => absurd (h5' ▸ z) (by decide), fun _ => ⟨setN a 7 0, q, ⟨hR, rfl, hq⟩, fun r8 h8 => ?_⟩⟩
      have h8' : r8 = if aSz a q = 0 then 1 else if 0 ≤ i ∧ i < nI (aSz a q - 1) then 0 else 3 := h8
      rw [if_pos c] at h8'
      rw [h8']
      exact bad 1 (by decide) (by decide) (by unfold celF; rw [if_neg (fun z => z.1 c), if_pos c])
    · have hl : rdA (wrI σ 0 0) 25 q = nI (aLane a q) := (rr_s hR hq).2.1 (by rw [eSz]; omega)
      rw [hl]
      refine ⟨fun e => ⟨setN a 7 0, q, ⟨hR, rfl, hq⟩, fun r14 h14 => ?_⟩, fun e => bad 2 (by decide) (by decide) (by unfold celF; rw [if_pos ⟨c, e⟩])⟩
      have h14' : r14 = if aSz a q = 0 then 1 else if 0 ≤ i ∧ i < nI (aSz a q - 1) then 0 else 3 := h14
      rw [if_neg c] at h14'
      refine ⟨fun hle => ?_, fun hgt => ⟨setN a 7 0, q, ⟨hR, rfl, hq⟩, fun r17 h17 => ?_⟩⟩
      · by_cases c2 : 0 ≤ i ∧ i < nI (aSz a q - 1)
        · have e0 : celF a q lane i = 0 := by unfold celF; rw [if_neg (fun z => z.2 e), if_neg c, if_pos c2]
          obtain ⟨i1, hi, rfl⟩ := (inR_iff (n := aSz a q - 1) (by omega)).mp c2
          have hti : toN (nI i1) = i1 := z_cl (by omega)
          obtain ⟨x1, x2⟩ := ix60 hq (show i1 < 60 by omega)
          refine ⟨x1, ?_, ?_⟩
          · rw [x2]
            have := (rr_s hR hq).2.2 i1 (by rw [eSz]; omega)
            rw [this]
            unfold res_cell; rw [if_neg g, ht, if_neg (fun z => z e0), hti]; rfl
          · unfold nxt_cell; rw [if_neg g, ht, e0]; exact hR
        · rw [h14', if_neg c2] at hle; exact absurd hle (by decide)
      · by_cases c2 : 0 ≤ i ∧ i < nI (aSz a q - 1)
        · rw [h14', if_pos c2] at hgt; exact absurd (by decide) hgt
        · have h17' : r17 = if aSz a q = 0 then 1 else if 0 ≤ i ∧ i < nI (aSz a q - 1) then 0 else 3 := h17
          rw [if_neg c, if_neg c2] at h17'
          rw [h17']
          exact bad 3 (by decide) (by decide) (by unfold celF; rw [if_neg (fun z => z.2 e), if_neg c, if_neg c2])
  · rw [in3] at h2; exact no (fun z => h2 z.2)
