theorem rc_drop {a : AS} {σ : S_} {p s : Nat} (hw : WF a) (h : RC (addT a 0 p s) σ) : RC a (wrI σ 5 (nI (nT a))) := by
  obtain ⟨⟨-, e2, e5, e6, e7, e8, ht, hm, hn, hr, hH, hpp⟩, g3, g4, g1⟩ := h
  refine ⟨⟨hw, e2, rI_same _ _ _, e6, e7, e8, fun t htt => ?_, hm, hn, hr, hH, hpp⟩, g3, g4, rc1_mono g1 (fun k hk => rI_ne _ _ (by omega)) (fun _ _ => rfl) rfl rfl (fun _ => rfl) (fun _ => rfl) (fun _ _ => rfl)⟩
  have q := ht t (by show t < nT a + 1; omega)
  have ad : aDeed (addT a 0 p s) t = (if t = nT a then 0 else aDeed a t) := rfl
  have at' : aTo (addT a 0 p s) t = (if t = nT a then p else aTo a t) := rfl
  have as' : aTin (addT a 0 p s) t = (if t = nT a then s else aTin a t) := rfl
  have ap : aPar (addT a 0 p s) t = (if t = nT a then 0 else aPar a t) := rfl
  rw [ad, at', as', ap, if_neg (by omega), if_neg (by omega), if_neg (by omega), if_neg (by omega)] at q
  exact q
theorem addT_to (a : AS) (d x p s : Nat) : set2 (addT a d x s) 4 (nT a) p = addT a d p s := by
  have key : ∀ (A : Nat → Nat → Nat) (f3 f5 f6 f x y : Nat → Nat), va_up (va_up (va_up (va_up (va_up A 3 f3) 4 x) 5 f5) 6 f6) 4 y = va_up (va_up (va_up (va_up A 3 f3) 4 y) 5 f5) 6 f6 := by
    intro A f3 f5 f6 f x y
    funext j
    unfold va_up
    by_cases c4 : j = 4
    · subst c4; rfl
    · rw [if_neg c4, if_neg c4, if_neg c4]
  have h1 : set2 (addT a d x s) 4 (nT a) p = ((addT a d x s).1, va_up (addT a d x s).2.1 4 (va_up (va_up (a.2.1 4) (nT a) x) (nT a) p), a.2.2) := rfl
  rw [h1, bx_uu]
  exact congrArg (fun z => ((addT a d x s).1, z, a.2.2)) (key a.2.1 _ _ _ (fun _ => 0) _ _)
theorem death_le (a : AS) (t : Nat) : death a t ≤ 40 := findF_le
theorem lgF_2 (a : AS) (s : Nat) : ∀ n, (lgF a s n).2 ≤ 40 ∧ ((lgF a s n).1 < n ∨ n = 0 ∨ (lgF a s n).1 = 0) := by
  intro n
  induction n with
  | zero => exact ⟨Nat.zero_le _, Or.inr (Or.inl rfl)⟩
  | succ n ih =>
    rw [lgF]; split
    · exact ⟨death_le _ _, Or.inl (Nat.lt_succ_self n)⟩
    · refine ⟨ih.1, ?_⟩
      rcases ih.2 with h | h | h
      · exact Or.inl (by omega)
      · subst h; exact Or.inr (Or.inr rfl)
      · exact Or.inr (Or.inr h)
theorem sp_X8_longest : Sp_X8_longest := by
  intro season what a σ0 hp
  have hC : RC a σ0 := hp
  have hl := rc_le hC.1
  have no : ¬ (inR season 40 ∧ inR what 2) → post_X8_longest season what a σ0 (-2) σ0 := fun z => ⟨by unfold res_longest; rw [if_pos z], hC⟩
  refine ⟨fun h => ?_, fun h => ⟨fun h2 => ⟨fun h3 => ⟨rc_l0 hC.1, fun r2 σ1 hr => ?_⟩, fun h3 => ?_⟩, fun h2 => ?_⟩⟩
  · rw [b2i_0] at h; exact no (fun q => h q.1)
  · rw [b2i_0, Classical.not_not] at h h2
    rw [b2i_0, nP0 hC.1] at h3
    have k1 : ¬ ¬ (inR season 40 ∧ inR what 2) := fun z => z ⟨h, h2⟩
    obtain ⟨s, hs', rfl⟩ := (inR_iff (n := 40) (by decide)).mp h
    have t1 : toN (nI s) = s := z_cl (by omega)
    have e0 : rdI σ0 (5 + 0) = nI (nT a) := rc_T hC.1
    rcases add_is e0 (by omega) hr with ⟨h4, h5, h6⟩ | ⟨h4, h5, h6⟩
    · have h6' : nT a = 6 := h4
      refine ⟨fun z => absurd h5 z, fun _ => ⟨by unfold res_longest; rw [if_neg k1, if_neg h3, if_pos h6'], h6 ▸ hC⟩⟩
    · have h4' : nT a < 6 := h4
      have n4 : ∀ m, m < 100 → ¬ nI m = (-4 : Int32) := by decide +kernel
      refine ⟨fun _ => ?_, fun z => absurd (h5.symm.trans z) (n4 _ (by omega))⟩
      have hres : res_longest (nI s) what a = if what = 0 then nI (lgF a s (nP a)).1 else ifI ((lgF a s (nP a)).2 = 40) (-9) (nI (lgF a s (nP a)).2) := by
        unfold res_longest; rw [if_neg k1, if_neg h3, if_neg (by omega), t1]
      have hC1 : RC (addT a 0 0 s) σ1 := by rw [h6]; exact rc_addT hC (by decide) (by omega) hs' h4'
      have key : ∀ k i x (σ : S_), i + k = nP a → RC (addT a 0 x s) σ → vl_X8_longest_66 what r2 (post_X8_longest (nI s) what a σ0) (k + 1) (nI (lgF a s i).1) (nI (lgF a s i).2) (nI i) σ := by
        intro k
        induction k with
        | zero =>
          intro i x σ hi hx
          have : i = nP a := by omega
          subst this
          refine ⟨fun _ => ?_, fun h => absurd (by rw [rc_P hx.1, show nP (addT a 0 x s) = nP a from rfl, z_le (by omega) (by omega)]; omega) h⟩
          intro r8 σ7 h7
          have e5 : rdI σ (5 + 0) = nI (nT a + 1) := (rc_T hx.1 : rdI σ 5 = nI (nT (addT a 0 x s)))
          have hC7 : RC a σ7 := by
            rcases back_is e5 (by omega) h7 with ⟨q1, -, -⟩ | ⟨q, q1, q2, -, -, -, q5⟩
            · exact absurd ⟨by decide, by rw [show (1 : Int32) = nI 1 from rfl, z_le (by decide) (by omega)]; omega⟩ q1
            · rw [show (1 : Int32) = nI 1 from rfl, z_eq (by decide) (by omega)] at q2
              rw [q5, ← q2, Nat.add_sub_cancel]
              exact rc_drop hC.1.1 hx
          have hb := (lgF_2 a s (nP a)).1
          refine ⟨fun hw => ⟨fun h40 => ⟨?_, hC7⟩, fun h40 => ⟨?_, hC7⟩⟩, fun hw => ⟨?_, hC7⟩⟩
          · rw [lim40, z_eq (by omega) (by omega)] at h40
            rw [hres, if_neg hw, ifI_f h40]
          · rw [lim40, z_eq (by omega) (by omega)] at h40
            rw [hres, if_neg hw, ifI_t h40]
          · rw [hres, if_pos hw]
        | succ k ih =>
          intro i x σ hi hx
          have e5 : rdI σ (5 + 0) = nI (nT a + 1) := (rc_T hx.1 : rdI σ 5 = nI (nT (addT a 0 x s)))
          refine ⟨fun h => ?_, fun _ => ⟨rc_l0 hx.1, fun σ11 h11 => ?_⟩⟩
          · rw [rc_P hx.1, show nP (addT a 0 x s) = nP a from rfl, z_le (by omega) (by omega)] at h; omega
          · rw [h5] at h11 ⊢
            have h11' := set_is (c := 0) e5 (by omega) (Nat.lt_succ_self (nT a)) (by decide) h11
            have hx2 := rc_to hx (t := nT a) (p := i) (by show nT a < nT a + 1; omega) (by show i < nP a; omega)
            rw [addT_to] at hx2
            have e11 : σ11 = wr2 σ 4 (4 * nT a) (nI i) := h11'
            rw [← e11] at hx2
            have hd := death_le (addT a 0 i s) (nT a)
            have hb := lgF_2 a s i
            have n9 : ∀ m, m < 100 → ¬ nI m = (-9 : Int32) := by decide +kernel
            have hst : lgF a s (i + 1) = if (lgF a s i).2 < death (addT a 0 i s) (nT a) then (i, death (addT a 0 i s) (nT a)) else lgF a s i := by rw [lgF]
            refine ⟨addT a 0 i s, nT a, ⟨hx2.1, ⟨rfl, by show nT a < nT a + 1; omega⟩, hx2.2.1, hx2.2.2.1⟩, fun r15 σ14 h14 => ⟨fun b => b = nI (death (addT a 0 i s) (nT a)), ⟨fun h9 => ?_, fun h9 => ?_⟩, fun b hb2 => ⟨fun hle => ?_, fun hgt => ?_⟩⟩⟩
            · by_cases c : death (addT a 0 i s) (nT a) = 40
              · exact absurd (h14.1.trans (ifI_t c)) h9
              · exact h14.1.trans (ifI_f c)
            · by_cases c : death (addT a 0 i s) (nT a) = 40
              · show (40 : Int32) = nI (death (addT a 0 i s) (nT a))
                rw [c]; rfl
              · exact absurd ((h14.1.trans (ifI_f c)).symm.trans h9) (n9 _ (by omega))
            · rw [show b = _ from hb2, z_le (by omega) (by omega)] at hle
              have := ih (i + 1) i σ14 (by omega) (h14.2.rc hx2)
              rw [hst, if_neg (by omega)] at this
              rw [nI_1, ← h5]; exact this
            · rw [show b = _ from hb2, z_le (by omega) (by omega)] at hgt
              have := ih (i + 1) i σ14 (by omega) (h14.2.rc hx2)
              rw [hst, if_pos (by omega)] at this
              rw [nI_1, show b = _ from hb2, ← h5]; exact this
      exact ⟨nP a + 1, key (nP a) 0 0 σ1 (by omega) hC1⟩
  · rw [b2i_0, Classical.not_not] at h h2 h3
    rw [nP0 hC.1] at h3
    have k1 : ¬ ¬ (inR season 40 ∧ inR what 2) := fun z => z ⟨h, h2⟩
    exact ⟨by unfold res_longest; rw [if_neg k1, if_pos h3], hC⟩
  · rw [b2i_0] at h2; exact no (fun q => h2 q.2)
theorem kind_is {a : AS} {σ : S_} (h : RC0 a σ) {p : Nat} (hp : p < nP a) : fn_PE_kind p σ = nI (aKind a p) := by
  obtain ⟨-, h1, -⟩ := rc_p h hp
  have hw := wf_p h.1 hp
  unfold fn_PE_kind
  rw [h1]
  have hk : aKind a p = 0 ∨ aKind a p = 1 ∨ aKind a p = 2 := by omega
  rcases hk with e | e | e <;> rw [e] <;> rfl
theorem sp_X8_ofPerson : Sp_X8_ofPerson := by
  intro p what a σ hp
  have hC : RC a σ := hp
  have hl := rc_le hC.1
  refine ⟨rc_pe hC.1, fun hn => ?_, fun q hq => ⟨trivial, ?_⟩⟩
  · have := pe_no hC.1 hn
    exact ⟨by unfold res_ofPerson; rw [if_pos this], hC⟩
  · obtain ⟨q1, rfl, q3, q4⟩ := pe_so hC.1 hq
    have k1 : ¬ ¬ inR (nI q) (nP a) := fun z => z q1
    obtain ⟨p1, p2, p3, p4, p5⟩ := rc_p hC.1 q3
    have side : q < nH σ ∧ isC (hget σ q).2.1 := ⟨by rw [rc_H hC.1]; exact q3, by rw [p2]; exact kcl_isC _⟩
    have R : ∀ x, x = (if what = 0 then nI (aKind a q) else if what = 1 then nI (aMinds a q) else if what = 2 then nI (aHome a q) else if what = 3 then nI (memA a q) else if what = 4 then b2i ((aPaid a).testBit q = true) else -2) → post_X8_ofPerson (nI q) what a σ x σ := by
      intro x hx
      refine ⟨?_, hC⟩
      unfold res_ofPerson; rw [if_neg k1, q4]; exact hx
    refine ⟨fun e => ⟨side, R _ ?_⟩, fun e => ⟨fun e1 => ⟨side, R _ ?_⟩, fun e1 => ⟨fun e2 => ⟨side, R _ ?_⟩, fun e2 => ⟨fun e3 => ⟨side, R _ ?_⟩, fun e3 => ⟨fun e4 => ⟨fun h => R _ ?_, fun h => R _ ?_⟩, fun e4 => R _ ?_⟩⟩⟩⟩⟩
    · rw [if_pos e, kind_is hC.1 q3]
    · rw [if_neg e, if_pos e1, p4]
    · rw [if_neg e, if_neg e1, if_pos e2, p5]
    · rw [if_neg e, if_neg e1, if_neg e2, if_pos e3, mem_is hC.1 q3]
    · rw [paid_is hC.1.1 hC.2.1 q3, b2i_0] at h
      rw [if_neg e, if_neg e1, if_neg e2, if_neg e3, if_pos e4, b2i_f h]
    · rw [paid_is hC.1.1 hC.2.1 q3, b2i_0, Classical.not_not] at h
      rw [if_neg e, if_neg e1, if_neg e2, if_neg e3, if_pos e4, b2i_t h]
    · rw [if_neg e, if_neg e1, if_neg e2, if_neg e3, if_neg e4]
theorem rc_tr {a : AS} {σ : S_} (h : RC a σ) (b : Int32) : RC (setTr a (trA (aTr a) b)) (trI σ b) := by
  obtain ⟨h0, g3, g4, e0, e1, hs⟩ := h
  refine ⟨h0, g3, g4, e0, ?_, fun k hk => ⟨(rI_ne _ _ (by omega)).trans (hs k hk).1, (rI_ne _ _ (by omega)).trans (hs k hk).2.1, (hs k hk).2.2⟩⟩
  show rdI (wrI σ 1 (31 * rdI σ 1 + b)) 1 = _
  rw [rI_same, e1]; rfl
theorem sp_X8_tell : Sp_X8_tell := by
  intro p a σ hp
  have hC : RC a σ := hp
  have hl := rc_le hC.1
  refine ⟨rc_pe hC.1, fun hn => ?_, fun q hq => ⟨trivial, ?_⟩⟩
  · have := pe_no hC.1 hn
    exact ⟨by unfold res_tell; rw [if_pos this], by unfold nxt_tell; rw [if_pos this]; exact hC⟩
  · obtain ⟨q1, rfl, q3, q4⟩ := pe_so hC.1 hq
    have k1 : ¬ ¬ inR (nI q) (nP a) := fun z => z q1
    obtain ⟨p1, p2, p3, p4, p5⟩ := rc_p hC.1 q3
    have hw := wf_p hC.1.1 q3
    refine ⟨⟨by rw [rc_H hC.1]; exact q3, by rw [p2]; exact kcl_isC _⟩, fun r σ5 h5 => ?_⟩
    unfold post_PE_telling at h5
    rw [p2] at h5
    unfold post_X8_tell res_tell nxt_tell
    rw [if_neg k1, if_neg k1, q4]
    have hk : aKind a q = 0 ∨ aKind a q = 1 ∨ aKind a q = 2 := by omega
    rcases hk with e | e | e <;> rw [e] at h5 ⊢
    · obtain ⟨h6, h7⟩ : post_X2_telling q σ r σ5 := h5
      rw [p4] at h6
      exact ⟨h6, h7 ▸ rc_tr hC 1⟩
    · obtain ⟨h6, h7⟩ : post_X0_telling q σ r σ5 := h5
      rw [p4] at h6
      exact ⟨h6, h7 ▸ rc_tr (rc_tr hC 2) 1⟩
    · obtain ⟨h6, h7⟩ : post_X1_telling q σ r σ5 := h5
      rw [p4] at h6
      refine ⟨?_, h7 ▸ rc_tr (rc_tr (rc_tr (rc_tr hC 3) 2) 1) 1⟩
      rw [h6, if_neg (by decide), if_neg (by decide)]
      rw [show (100 : Int32) = nI 100 from rfl, show (2 : Int32) = nI 2 from rfl, nI_add, nI_add, pk_mul, nI_add]
      congr 1; omega
theorem sp_X8_greet : Sp_X8_greet := by
  intro p a σ hp
  have hC : RC a σ := hp
  have hl := rc_le hC.1
  refine ⟨rc_pe hC.1, fun hn => ?_, fun q hq => ⟨trivial, ?_⟩⟩
  · have := pe_no hC.1 hn
    exact ⟨by unfold res_greet; rw [if_pos this], by unfold nxt_greet; rw [if_pos this]; exact hC⟩
  · obtain ⟨q1, rfl, q3, q4⟩ := pe_so hC.1 hq
    have k1 : ¬ ¬ inR (nI q) (nP a) := fun z => z q1
    obtain ⟨p1, p2, p3, p4, p5⟩ := rc_p hC.1 q3
    have hw := wf_p hC.1.1 q3
    refine ⟨⟨by rw [rc_H hC.1]; exact q3, by rw [p2]; exact kcl_isC _⟩, fun r σ5 h5 => ?_⟩
    unfold post_PE_greeting at h5
    rw [p2] at h5
    unfold post_X8_greet res_greet nxt_greet
    rw [if_neg k1, if_neg k1, q4]
    have hk : aKind a q = 0 ∨ aKind a q = 1 ∨ aKind a q = 2 := by omega
    rcases hk with e | e | e <;> rw [e] at h5 ⊢
    · obtain ⟨h6, h7⟩ : post_X2_greeting q σ r σ5 := h5
      exact ⟨h6.trans p3, h7 ▸ rc_tr hC 4⟩
    · obtain ⟨h6, h7⟩ : post_X2_greeting q σ r σ5 := h5
      exact ⟨h6.trans p3, h7 ▸ rc_tr hC 4⟩
    · obtain ⟨h6, h7⟩ : post_X1_greeting q σ r σ5 := h5
      exact ⟨h6, h7 ▸ rc_tr hC 5⟩
theorem rc_flt {a : AS} {σ : S_} (h : RC a σ) {v : Nat} (hv : v ≤ 4) : RC (setN a 7 v) (wrI σ 0 (nI v)) := by
  obtain ⟨⟨⟨w1, w2, w3, w4, w5, w6, w7, w8, w9, w10, w11, w12, w13, w14, w15, w16⟩, e2, e5, e6, e7, e8, ht, hm, hn, hr, hH, hpp⟩, g3, g4, e0, e1, hs⟩ := h
  exact ⟨⟨⟨w1, w2, w3, w4, w5, w6, w7, w8, hv, w10, w11, w12, w13, w14, w15, w16⟩, e2, e5, e6, e7, e8, ht, hm, hn, hr, hH, hpp⟩, g3, g4, rI_same _ _ _, e1, fun k hk => ⟨(rI_ne _ _ (by omega)).trans (hs k hk).1, (rI_ne _ _ (by omega)).trans (hs k hk).2.1, (hs k hk).2.2⟩⟩
theorem setN_setN (a : AS) (k x y : Nat) : setN (setN a k x) k y = setN a k y := by
  show (va_up (va_up a.1 k x) k y, a.2) = (va_up a.1 k y, a.2)
  rw [bx_uu]
theorem sp_X8_as : Sp_X8_as := by
  intro p kind a σ hp
  have hC0 : RC a σ := hp
  have hl := rc_le hC0.1
  rintro σ1 rfl
  have hC : RC (setN a 7 0) (wrI σ 0 0) := rc_flt hC0 (Nat.zero_le 4)
  refine ⟨rc_pe hC.1, fun hn => ?_, fun q hq => ⟨trivial, fun h => ?_, fun h => ?_⟩⟩
  · have this0 := pe_no hC.1 hn
    have this : ¬ inR p (nP a) := this0
    exact ⟨by unfold res_as; rw [if_pos this], by unfold nxt_as; rw [if_pos this]; exact hC⟩
  · obtain ⟨q1, rfl, q3, q4⟩ := pe_so hC.1 hq
    have k1 : ¬ ¬ inR (nI q) (nP a) := fun z => z q1
    obtain ⟨p1, p2, p3, p4, p5⟩ := rc_p hC.1 q3
    rw [b2i_0, Classical.not_not] at h
    have k2 : ¬ ¬ inR kind 3 := fun z => z h
    have ek : fn_PE_kind q (wrI σ 0 0) = nI (aKind a q) := kind_is hC.1 q3
    refine ⟨⟨by rw [rc_H hC.1]; exact q3, by rw [p2]; exact kcl_isC _⟩, ⟨fun hle => ?_, fun hgt => ?_⟩⟩
    · rw [ek] at hle
      have k3 : ¬ nI (aKind a q) < kind := Int32.not_lt.mpr hle
      exact ⟨by unfold res_as; rw [if_neg k1, if_neg k2, q4, if_neg k3], by unfold nxt_as; rw [if_neg k1, if_neg k2, q4, if_neg k3]; exact hC⟩
    · rw [ek] at hgt
      have k3 : nI (aKind a q) < kind := Int32.not_le.mp hgt
      rintro r7 σ6 ⟨h6, h7⟩
      refine ⟨by unfold res_as; rw [if_neg k1, if_neg k2, q4, if_pos k3, h6]; decide, ?_⟩
      unfold nxt_as; rw [if_neg k1, if_neg k2, q4, if_pos k3, h7]
      have := rc_flt hC (v := 2) (by decide)
      rw [setN_setN] at this; exact this
  · obtain ⟨q1, rfl, q3, q4⟩ := pe_so hC.1 hq
    have k1 : ¬ ¬ inR (nI q) (nP a) := fun z => z q1
    rw [b2i_0] at h
    have k2 : ¬ inR kind 3 := h
    exact ⟨by unfold res_as; rw [if_neg k1, if_pos k2], by unfold nxt_as; rw [if_neg k1, if_pos k2]; exact hC⟩
theorem sp_X8_trace : Sp_X8_trace := fun a σ hp => ⟨hp.2.2.2.2.1, hp⟩
theorem sp_X8_fault : Sp_X8_fault := fun a σ hp => ⟨hp.2.2.2.1, hp⟩
theorem sp_X8_many : Sp_X8_many := by
  intro what a σ hp
  have hC : RC a σ := hp
  refine ⟨fun e => ⟨?_, hC⟩, fun e => ⟨fun e1 => ⟨?_, hC⟩, fun e1 => ⟨fun e2 => ⟨?_, hC⟩, fun e2 => ⟨fun e3 => ⟨?_, hC⟩, fun e3 => ⟨fun e4 => ⟨?_, hC⟩, fun e4 => ⟨fun e5 => ⟨?_, hC⟩, fun e5 => ⟨?_, hC⟩⟩⟩⟩⟩⟩⟩ <;> unfold res_many
  · rw [if_pos e]; exact rc_P hC.1
  · rw [if_neg e, if_pos e1]; exact rc_T hC.1
  · rw [if_neg e, if_neg e1, if_pos e2]; exact rc_M hC.1
  · rw [if_neg e, if_neg e1, if_neg e2, if_pos e3]; exact rc_N hC.1
  · rw [if_neg e, if_neg e1, if_neg e2, if_neg e3, if_pos e4]; exact rc_R hC.1
  · rw [if_neg e, if_neg e1, if_neg e2, if_neg e3, if_neg e4, if_pos e5]; exact hC.2.2.1
  · rw [if_neg e, if_neg e1, if_neg e2, if_neg e3, if_neg e4, if_neg e5]
