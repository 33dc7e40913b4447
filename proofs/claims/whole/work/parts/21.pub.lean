theorem rc_addM {a : AS} {σ : S_} (h : RC a σ) {p hh s : Nat} (hp : p < nP a) (hh3 : hh < 3) (hs : s < 40) (hT : nM a < 8) : RC (setN (set2 (set2 (set2 a 7 (nM a) p) 8 (nM a) hh) 9 (nM a) s) 4 (nM a + 1)) (addS σ 1 (nM a) (nI p) (nI s) (nI hh) 0) := by
  obtain ⟨⟨⟨w1, w2, w3, w4, w5, w6, w7, w8, w9, w10, w11, w12, w13, w14, w15, w16⟩, e2, e5, e6, e7, e8, ht, hm, hn, hr, hH, hpp⟩, h3, h4, h1⟩ := h
  refine ⟨?_, h3, h4, rc1_mono h1 (fun k hk => by rw [addS_I, if_neg (by omega)]) (fun j hj => addS_A _ _ _ _ _ _ _ _ (by omega)) rfl rfl (fun _ => rfl) (fun _ => rfl) (fun _ _ => rfl)⟩
  generalize ha' : setN (set2 (set2 (set2 a 7 (nM a) p) 8 (nM a) hh) 9 (nM a) s) 4 (nM a + 1) = a'
  have aM : nM a' = nM a + 1 := by rw [← ha']; rfl
  have f1 : ∀ t, aMof a' t = (if t = nM a then p else aMof a t) := by rw [← ha']; exact fun _ => rfl
  have f2 : ∀ t, aMto a' t = (if t = nM a then hh else aMto a t) := by rw [← ha']; exact fun _ => rfl
  have f3 : ∀ t, aMin a' t = (if t = nM a then s else aMin a t) := by rw [← ha']; exact fun _ => rfl
  have g12 : ∀ k, k < nM a' → aMof a' k < nP a' ∧ aMto a' k < 3 ∧ aMin a' k < 40 := by
    intro k hk
    rw [aM] at hk
    rw [f1, f2, f3, show nP a' = nP a by rw [← ha']; rfl]
    by_cases e : k = nM a
    · rw [if_pos e, if_pos e, if_pos e]; exact ⟨hp, hh3, hs⟩
    · rw [if_neg e, if_neg e, if_neg e]; exact w12 k (by omega)
  have gm : ∀ k, k < nM a' → rdA (addS σ 1 (nM a) (nI p) (nI s) (nI hh) 0) 5 (4 * k) = nI (aMof a' k) ∧ rdA (addS σ 1 (nM a) (nI p) (nI s) (nI hh) 0) 5 (4 * k + 1) = nI (aMin a' k) ∧ rdA (addS σ 1 (nM a) (nI p) (nI s) (nI hh) 0) 5 (4 * k + 2) = nI (aMto a' k) := by
    intro k hk
    rw [aM] at hk
    obtain ⟨r0, r1, r2, r3⟩ := addS_r σ 1 (nM a) (nI p) (nI s) (nI hh) 0 k
    rw [f1, f2, f3]
    refine ⟨r0.trans ?_, r1.trans ?_, r2.trans ?_⟩ <;> by_cases e : k = nM a
    · rw [if_pos e, if_pos e]
    · rw [if_neg e, if_neg e]; exact (hm k (by omega)).1
    · rw [if_pos e, if_pos e]
    · rw [if_neg e, if_neg e]; exact (hm k (by omega)).2.1
    · rw [if_pos e, if_pos e]
    · rw [if_neg e, if_neg e]; exact (hm k (by omega)).2.2
  have gM8 : nM a' ≤ 8 := by omega
  have g16 : nP a' = 0 → nT a' = 0 ∧ nM a' = 0 ∧ nN a' = 0 ∧ nR a' = 0 ∧ aLaw a' = 0 := by
    rw [show nP a' = nP a by rw [← ha']; rfl]; intro h0; omega
  have e6' : rdI (addS σ 1 (nM a) (nI p) (nI s) (nI hh) 0) 6 = nI (nM a') := by rw [aM]; rfl
  subst ha'
  exact ⟨⟨w1, w2, w3, w4, w5, gM8, w7, w8, w9, w10, w11, g12, w13, w14, w15, g16⟩, e2, e5, e6', e7, e8, ht, gm, hn, hr, hH, hpp⟩
theorem rc_addN {a : AS} {σ : S_} (h : RC a σ) {d o : Nat} (hd : d < 6) (ho : o < 6) (hT : nN a < 6) (h0 : ¬ nP a = 0) : RC (setN (set2 (set2 a 10 (nN a) d) 11 (nN a) o) 5 (nN a + 1)) (addS σ 2 (nN a) (nI d) (nI o) 0 0) := by
  obtain ⟨⟨⟨w1, w2, w3, w4, w5, w6, w7, w8, w9, w10, w11, w12, w13, w14, w15, w16⟩, e2, e5, e6, e7, e8, ht, hm, hn, hr, hH, hpp⟩, h3, h4, h1⟩ := h
  refine ⟨?_, h3, h4, rc1_mono h1 (fun k hk => by rw [addS_I, if_neg (by omega)]) (fun j hj => addS_A _ _ _ _ _ _ _ _ (by omega)) rfl rfl (fun _ => rfl) (fun _ => rfl) (fun _ _ => rfl)⟩
  generalize ha' : setN (set2 (set2 a 10 (nN a) d) 11 (nN a) o) 5 (nN a + 1) = a'
  have aM : nN a' = nN a + 1 := by rw [← ha']; rfl
  have f1 : ∀ t, aN1 a' t = (if t = nN a then d else aN1 a t) := by rw [← ha']; exact fun _ => rfl
  have f2 : ∀ t, aN2 a' t = (if t = nN a then o else aN2 a t) := by rw [← ha']; exact fun _ => rfl
  have g13 : ∀ k, k < nN a' → aN1 a' k < 6 ∧ aN2 a' k < 6 := by
    intro k hk
    rw [aM] at hk
    rw [f1, f2]
    by_cases e : k = nN a
    · rw [if_pos e, if_pos e]; exact ⟨hd, ho⟩
    · rw [if_neg e, if_neg e]; exact w13 k (by omega)
  have gn : ∀ k, k < nN a' → rdA (addS σ 2 (nN a) (nI d) (nI o) 0 0) 6 (4 * k) = nI (aN1 a' k) ∧ rdA (addS σ 2 (nN a) (nI d) (nI o) 0 0) 6 (4 * k + 1) = nI (aN2 a' k) := by
    intro k hk
    rw [aM] at hk
    obtain ⟨r0, r1, r2, r3⟩ := addS_r σ 2 (nN a) (nI d) (nI o) 0 0 k
    rw [f1, f2]
    refine ⟨r0.trans ?_, r1.trans ?_⟩ <;> by_cases e : k = nN a
    · rw [if_pos e, if_pos e]
    · rw [if_neg e, if_neg e]; exact (hn k (by omega)).1
    · rw [if_pos e, if_pos e]
    · rw [if_neg e, if_neg e]; exact (hn k (by omega)).2
  have gM8 : nN a' ≤ 6 := by omega
  have g16 : nP a' = 0 → nT a' = 0 ∧ nM a' = 0 ∧ nN a' = 0 ∧ nR a' = 0 ∧ aLaw a' = 0 := by
    rw [show nP a' = nP a by rw [← ha']; rfl]; intro q; omega
  have e7' : rdI (addS σ 2 (nN a) (nI d) (nI o) 0 0) 7 = nI (nN a') := by rw [aM]; rfl
  subst ha'
  exact ⟨⟨w1, w2, w3, w4, w5, w6, gM8, w8, w9, w10, w11, w12, g13, w14, w15, g16⟩, e2, e5, e6, e7', e8, ht, hm, gn, hr, hH, hpp⟩
theorem rc_addR {a : AS} {σ : S_} (h : RC a σ) {p t s d : Nat} (hp : p < nP a) (htt : t < nT a) (hs : s < 40) (hd : d ≤ 1) (hT : nR a < 8) : RC (setN (set2 (set2 (set2 (set2 a 12 (nR a) p) 13 (nR a) t) 14 (nR a) s) 15 (nR a) d) 6 (nR a + 1)) (addS σ 3 (nR a) (nI p) (nI s) (nI t) (nI d)) := by
  obtain ⟨⟨⟨w1, w2, w3, w4, w5, w6, w7, w8, w9, w10, w11, w12, w13, w14, w15, w16⟩, e2, e5, e6, e7, e8, ht, hm, hn, hr, hH, hpp⟩, h3, h4, h1⟩ := h
  refine ⟨?_, h3, h4, rc1_mono h1 (fun k hk => by rw [addS_I, if_neg (by omega)]) (fun j hj => addS_A _ _ _ _ _ _ _ _ (by omega)) rfl rfl (fun _ => rfl) (fun _ => rfl) (fun _ _ => rfl)⟩
  generalize ha' : setN (set2 (set2 (set2 (set2 a 12 (nR a) p) 13 (nR a) t) 14 (nR a) s) 15 (nR a) d) 6 (nR a + 1) = a'
  have aM : nR a' = nR a + 1 := by rw [← ha']; rfl
  have f1 : ∀ k, aRof a' k = (if k = nR a then p else aRof a k) := by rw [← ha']; exact fun _ => rfl
  have f2 : ∀ k, aRt a' k = (if k = nR a then t else aRt a k) := by rw [← ha']; exact fun _ => rfl
  have f3 : ∀ k, aRin a' k = (if k = nR a then s else aRin a k) := by rw [← ha']; exact fun _ => rfl
  have f4 : ∀ k, aRdid a' k = (if k = nR a then d else aRdid a k) := by rw [← ha']; exact fun _ => rfl
  have g14 : ∀ k, k < nR a' → aRof a' k < nP a' ∧ aRt a' k < nT a' ∧ aRin a' k < 40 ∧ aRdid a' k ≤ 1 := by
    intro k hk
    rw [aM] at hk
    rw [f1, f2, f3, f4, show nP a' = nP a by rw [← ha']; rfl, show nT a' = nT a by rw [← ha']; rfl]
    by_cases e : k = nR a
    · rw [if_pos e, if_pos e, if_pos e, if_pos e]; exact ⟨hp, htt, hs, hd⟩
    · rw [if_neg e, if_neg e, if_neg e, if_neg e]; exact w14 k (by omega)
  have gr : ∀ k, k < nR a' → rdA (addS σ 3 (nR a) (nI p) (nI s) (nI t) (nI d)) 7 (4 * k) = nI (aRof a' k) ∧ rdA (addS σ 3 (nR a) (nI p) (nI s) (nI t) (nI d)) 7 (4 * k + 1) = nI (aRin a' k) ∧ rdA (addS σ 3 (nR a) (nI p) (nI s) (nI t) (nI d)) 7 (4 * k + 2) = nI (aRt a' k) ∧ rdA (addS σ 3 (nR a) (nI p) (nI s) (nI t) (nI d)) 7 (4 * k + 3) = nI (aRdid a' k) := by
    intro k hk
    rw [aM] at hk
    obtain ⟨r0, r1, r2, r3⟩ := addS_r σ 3 (nR a) (nI p) (nI s) (nI t) (nI d) k
    rw [f1, f2, f3, f4]
    refine ⟨r0.trans ?_, r1.trans ?_, r2.trans ?_, r3.trans ?_⟩ <;> by_cases e : k = nR a
    · rw [if_pos e, if_pos e]
    · rw [if_neg e, if_neg e]; exact (hr k (by omega)).1
    · rw [if_pos e, if_pos e]
    · rw [if_neg e, if_neg e]; exact (hr k (by omega)).2.1
    · rw [if_pos e, if_pos e]
    · rw [if_neg e, if_neg e]; exact (hr k (by omega)).2.2.1
    · rw [if_pos e, if_pos e]
    · rw [if_neg e, if_neg e]; exact (hr k (by omega)).2.2.2
  have gM8 : nR a' ≤ 8 := by omega
  have g16 : nP a' = 0 → nT a' = 0 ∧ nM a' = 0 ∧ nN a' = 0 ∧ nR a' = 0 ∧ aLaw a' = 0 := by
    rw [show nP a' = nP a by rw [← ha']; rfl]; intro h0; omega
  have e8' : rdI (addS σ 3 (nR a) (nI p) (nI s) (nI t) (nI d)) 8 = nI (nR a') := by rw [aM]; rfl
  subst ha'
  exact ⟨⟨w1, w2, w3, w4, w5, w6, w7, gM8, w9, w10, w11, w12, w13, g14, w15, g16⟩, e2, e5, e6, e7, e8', ht, hm, hn, gr, hH, hpp⟩
theorem sp_X8_move : Sp_X8_move := by
  intro p h season a σ hp
  have hC : RC a σ := hp
  have hl := rc_le hC.1
  have no : ¬ (inR p (nP a) ∧ inR h 3) → post_X8_move p h season a σ (-1) σ := by
    intro z; exact ⟨by unfold res_move; rw [if_pos z], by unfold nxt_move; rw [if_pos z]; exact hC⟩
  refine ⟨rc_pe hC.1, fun hn => ?_, fun q hq => ⟨trivial, fun b => b = b2i (0 ≤ h ∧ h < 3), ⟨fun z => ?_, fun z => ?_⟩, fun b hb => ?_⟩⟩
  · exact ref_use (Q := fun r => post_X8_move p h season a σ r σ) (K := False) (I := inR season 40) (by decide) b2i_k (fun _ => no (fun z => pe_no hC.1 hn z.1)) (fun z => z.elim) (fun z => z.elim) (fun z => z.elim)
  · rw [b2i_0] at z; exact (b2i_f z).symm
  · rw [b2i_0, Classical.not_not] at z; exact (b2i_t z).symm
  · rw [show b = b2i (0 ≤ h ∧ h < 3) from hb]
    obtain ⟨q1, q2, q3, q4⟩ := pe_so hC.1 hq
    refine ref_use (Q := fun r => post_X8_move p h season a σ r σ) (K := inR h 3) (I := inR season 40) b2i_k b2i_k (fun z => no (fun y => z y.2)) (fun z1 z2 => ?_) (fun _ _ z => absurd ((nP0 hC.1).mp z) (by omega)) (fun hh hs _ => ⟨rc_l1 hC.1, fun r σ1 hr => ?_⟩)
    · have k1 : ¬ ¬ (inR p (nP a) ∧ inR h 3) := fun z => z ⟨q1, z1⟩
      exact ⟨by unfold res_move; rw [if_neg k1, if_pos z2], by unfold nxt_move; rw [if_neg k1, if_pos z2]; exact hC⟩
    · obtain ⟨hh', hh3, rfl⟩ := (inR_iff (by decide)).mp hh
      obtain ⟨s, hs', rfl⟩ := (inR_iff (by decide)).mp hs
      subst q2
      have k1 : ¬ ¬ (inR (nI q) (nP a) ∧ inR (nI hh') 3) := fun z => z ⟨q1, hh⟩
      have k2 : ¬ ¬ inR (nI s) 40 := fun z => z hs
      have t1 : toN (nI hh') = hh' := z_cl (by omega)
      have t2 : toN (nI q) = q := z_cl (by omega)
      have t3 : toN (nI s) = s := z_cl (by omega)
      have e0 : rdI σ (5 + 1) = nI (nM a) := rc_M hC.1
      unfold post_X8_move res_move nxt_move
      simp only [if_neg k1, if_neg k2]
      rw [t1, t2, t3]
      rcases add_is e0 (by omega) hr with ⟨h1, h2, h3⟩ | ⟨h1, h2, h3⟩
      · have h6 : nM a = 8 := h1
        rw [if_pos h6, if_pos h6]; exact ⟨h2, h3 ▸ hC⟩
      · have h6 : nM a < 8 := h1
        have h7 : ¬ nM a = 8 := by omega
        rw [if_neg h7, if_neg h7, h3]; exact ⟨h2, rc_addM hC q3 hh3 hs' h6⟩
theorem sp_X8_need : Sp_X8_need := by
  intro deed other a σ hp
  have hC : RC a σ := hp
  have hl := rc_le hC.1
  have no : ¬ (inR deed 6 ∧ inR other 6) → post_X8_need deed other a σ (-1) σ := by
    intro z; exact ⟨by unfold res_need; rw [if_pos z], by unfold nxt_need; rw [if_pos z]; exact hC⟩
  refine ⟨fun h => ?_, fun h => ⟨fun h2 => ⟨fun h3 => ⟨rc_l2 hC.1, fun r σ1 hr => ?_⟩, fun h3 => ?_⟩, fun h2 => ?_⟩⟩
  · rw [b2i_0] at h; exact no (fun z => h z.1)
  · rw [b2i_0, Classical.not_not] at h h2
    rw [b2i_0, nP0 hC.1] at h3
    have k1 : ¬ ¬ (inR deed 6 ∧ inR other 6) := fun z => z ⟨h, h2⟩
    obtain ⟨d, hd, rfl⟩ := (inR_iff (n := 6) (by decide)).mp h
    obtain ⟨o, ho, rfl⟩ := (inR_iff (n := 6) (by decide)).mp h2
    have t1 : toN (nI d) = d := z_cl (by omega)
    have t2 : toN (nI o) = o := z_cl (by omega)
    have e0 : rdI σ (5 + 2) = nI (nN a) := rc_N hC.1
    unfold post_X8_need res_need nxt_need
    simp only [if_neg k1, if_neg h3]
    rw [t1, t2]
    rcases add_is e0 (by omega) hr with ⟨h1, h2, h4⟩ | ⟨h1, h2, h4⟩
    · have h6 : nN a = 6 := h1
      rw [if_pos h6, if_pos h6]; exact ⟨h2, h4 ▸ hC⟩
    · have h6 : nN a < 6 := h1
      have h7 : ¬ nN a = 6 := by omega
      rw [if_neg h7, if_neg h7, h4]; exact ⟨h2, rc_addN hC hd ho h6 h3⟩
  · rw [b2i_0, Classical.not_not] at h h2 h3
    rw [nP0 hC.1] at h3
    have k1 : ¬ ¬ (inR deed 6 ∧ inR other 6) := fun z => z ⟨h, h2⟩
    exact ⟨by unfold res_need; rw [if_neg k1, if_pos h3], by unfold nxt_need; rw [if_neg k1, if_pos h3]; exact hC⟩
  · rw [b2i_0] at h2; exact no (fun z => h2 z.2)
theorem sp_X8_reading : Sp_X8_reading := by
  intro p t season did a σ hp
  obtain ⟨hC, hdid⟩ := hp
  have hl := rc_le hC.1
  have no : ¬ (inR p (nP a) ∧ inR t (nT a)) → post_X8_reading p t season did a σ (-1) σ := by
    intro z; exact ⟨by unfold res_reading; rw [if_pos z], by unfold nxt_reading; rw [if_pos z]; exact hC⟩
  have ehas : fn_X3_has 0 t σ = b2i (inR t (nT a)) := by
    apply b2i_c
    rw [show rdI σ (5 + 0) = nI (nT a) from rc_T hC.1]
  refine ⟨rc_pe hC.1, fun hn => ?_, fun q hq => ⟨trivial, fun b => b = b2i (inR t (nT a)), ⟨fun z => ?_, fun z => ?_⟩, fun b hb => ?_⟩⟩
  · exact ref_use (Q := fun r => post_X8_reading p t season did a σ r σ) (K := False) (I := inR season 40) (by decide) b2i_k (fun _ => no (fun z => pe_no hC.1 hn z.1)) (fun z => z.elim) (fun z => z.elim) (fun z => z.elim)
  · rw [ehas, b2i_0] at z; exact (b2i_f z).symm
  · rw [ehas, b2i_0, Classical.not_not] at z; exact (b2i_t z).symm
  · rw [show b = b2i (inR t (nT a)) from hb]
    obtain ⟨q1, q2, q3, q4⟩ := pe_so hC.1 hq
    refine ref_use (Q := fun r => post_X8_reading p t season did a σ r σ) (K := inR t (nT a)) (I := inR season 40) b2i_k b2i_k (fun z => no (fun y => z y.2)) (fun z1 z2 => ?_) (fun _ _ z => absurd ((nP0 hC.1).mp z) (by omega)) (fun htt hs _ => ⟨fun x => x = did, ⟨fun z => z.symm, fun z => hdid.elim (fun y => absurd y z) (fun y => y.symm)⟩, fun x hx => ⟨rc_l3 hC.1, fun r σ1 hr => ?_⟩⟩)
    · have k1 : ¬ ¬ (inR p (nP a) ∧ inR t (nT a)) := fun z => z ⟨q1, z1⟩
      exact ⟨by unfold res_reading; rw [if_neg k1, if_pos z2], by unfold nxt_reading; rw [if_neg k1, if_pos z2]; exact hC⟩
    · rw [show x = did from hx] at hr
      obtain ⟨t', ht', rfl⟩ := (inR_iff (by omega)).mp htt
      obtain ⟨s, hs', rfl⟩ := (inR_iff (by decide)).mp hs
      subst q2
      obtain ⟨d, hd, rfl⟩ : ∃ d : Nat, d ≤ 1 ∧ did = nI d := hdid.elim (fun y => ⟨0, by decide, y⟩) (fun y => ⟨1, by decide, y⟩)
      have k1 : ¬ ¬ (inR (nI q) (nP a) ∧ inR (nI t') (nT a)) := fun z => z ⟨q1, htt⟩
      have k2 : ¬ ¬ inR (nI s) 40 := fun z => z hs
      have t1 : toN (nI t') = t' := z_cl (by omega)
      have t2 : toN (nI q) = q := z_cl (by omega)
      have t3 : toN (nI s) = s := z_cl (by omega)
      have t4 : toN (nI d) = d := z_cl (by omega)
      have e0 : rdI σ (5 + 3) = nI (nR a) := rc_R hC.1
      unfold post_X8_reading res_reading nxt_reading
      simp only [if_neg k1, if_neg k2]
      rw [t1, t2, t3, t4]
      rcases add_is e0 (by omega) hr with ⟨h1, h2, h3⟩ | ⟨h1, h2, h3⟩
      · have h6 : nR a = 8 := h1
        rw [if_pos h6, if_pos h6]; exact ⟨h2, h3 ▸ hC⟩
      · have h6 : nR a < 8 := h1
        have h7 : ¬ nR a = 8 := by omega
        rw [if_neg h7, if_neg h7, h3]; exact ⟨h2, rc_addR hC q3 ht' hs' hd h6⟩
