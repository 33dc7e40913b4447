theorem ref_use {Q : Int32 → Prop} {X K I : Prop} {k i : Int32} {σ : S_} (hk : k = 0 ↔ ¬ K) (hi : i = 0 ↔ ¬ I) (h1 : ¬ K → Q (-1)) (h2 : K → ¬ I → Q (-2)) (h4 : K → I → rdI σ 2 = 0 → Q (-3)) (h3 : K → I → ¬ rdI σ 2 = 0 → X) : (fn_X8_refusal k i σ = 0 → X) ∧ (¬ fn_X8_refusal k i σ = 0 → Q (fn_X8_refusal k i σ)) := by
  unfold fn_X8_refusal
  by_cases hK : K
  · rw [if_neg (fun q => hk.mp q hK)]
    by_cases hI : I
    · rw [if_neg (fun q => hi.mp q hI)]
      by_cases h0 : rdI σ 2 = 0
      · rw [if_pos h0]; exact ⟨fun q => absurd q (by decide), fun _ => h4 hK hI h0⟩
      · rw [if_neg h0]; exact ⟨fun _ => h3 hK hI h0, fun q => absurd rfl q⟩
    · rw [if_pos (hi.mpr hI)]; exact ⟨fun q => absurd q (by decide), fun _ => h2 hK hI⟩
  · rw [if_pos (hk.mpr hK)]; exact ⟨fun q => absurd q (by decide), fun _ => h1 hK⟩
theorem b2i_k {c : Prop} [Decidable c] : b2i c = 0 ↔ ¬ c := by rw [b2i_0]
theorem pe_no {a : AS} {σ : S_} {p : Int32} (h : RC0 a σ) (hp : fn_X6_person p σ = none) : ¬ inR p (nP a) := by
  intro q
  unfold fn_X6_person at hp
  rw [rc_P h, if_pos q] at hp; cases hp
theorem pe_so {a : AS} {σ : S_} {p : Int32} {q : Nat} (h : RC0 a σ) (hp : fn_X6_person p σ = some q) : inR p (nP a) ∧ p = nI q ∧ q < nP a ∧ toN p = q := by
  unfold fn_X6_person at hp
  rw [rc_P h] at hp
  by_cases c : 0 ≤ p ∧ p < nI (nP a)
  · have hl := rc_le h
    obtain ⟨k, hk, rfl⟩ := one_of rfl (by omega) c
    rw [if_pos c] at hp
    have e : Int32.toNatClampNeg (nI k) = q := Option.some.inj hp
    rw [z_cl (by omega)] at e
    subst e
    exact ⟨c, rfl, hk, z_cl (by omega)⟩
  · rw [if_neg c] at hp; cases hp
theorem nP0 {a : AS} {σ : S_} (h : RC0 a σ) : rdI σ 2 = 0 ↔ nP a = 0 := by
  have hl := rc_le h
  rw [rc_P h, show (0 : Int32) = nI 0 from rfl, z_eq (by omega) (by decide)]
theorem rc1_mono {a a' : AS} {x y : S_} (h : RC1 a x) (hI : ∀ k, k < 2 ∨ 12 ≤ k → rdI y k = rdI x k) (hA : ∀ j, j < 4 → rdA y j = rdA x j) (h7 : aFault a' = aFault a) (ht : aTr a' = aTr a) (h16 : ∀ k, aSz a' k = aSz a k) (h17 : ∀ k, aLane a' k = aLane a k) (hc : ∀ k i, aCell a' k i = aCell a k i) : RC1 a' y := by
  obtain ⟨e0, e1, hs⟩ := h
  refine ⟨by rw [hI 0 (by omega), h7]; exact e0, by rw [hI 1 (by omega), ht]; exact e1, fun k hk => ?_⟩
  rw [hI _ (by omega), hI _ (by omega), hA k hk, h16, h17]
  refine ⟨(hs k hk).1, (hs k hk).2.1, fun i hi => ?_⟩
  rw [hc]; exact (hs k hk).2.2 i hi
/-! a row more -/
theorem addS_I (σ : S_) (j C : Nat) (c0 c1 c2 c3 : Int32) (k : Nat) : rdI (addS σ j C c0 c1 c2 c3) k = if k = 5 + j then nI (C + 1) else rdI σ k := rfl
theorem addS_A (σ : S_) (j C : Nat) (c0 c1 c2 c3 : Int32) (j' : Nat) (h : j' ≠ 4 + j) : rdA (addS σ j C c0 c1 c2 c3) j' = rdA σ j' := by
  unfold addS; rw [rA_w2n _ _ _ _ _ h, rA_w2n _ _ _ _ _ h, rA_w2n _ _ _ _ _ h, rA_w2n _ _ _ _ _ h]; rfl
theorem addS_r (σ : S_) (j C : Nat) (c0 c1 c2 c3 : Int32) (k : Nat) : (rdA (addS σ j C c0 c1 c2 c3) (4 + j) (4 * k) = if k = C then c0 else rdA σ (4 + j) (4 * k)) ∧ (rdA (addS σ j C c0 c1 c2 c3) (4 + j) (4 * k + 1) = if k = C then c1 else rdA σ (4 + j) (4 * k + 1)) ∧ (rdA (addS σ j C c0 c1 c2 c3) (4 + j) (4 * k + 2) = if k = C then c2 else rdA σ (4 + j) (4 * k + 2)) ∧ (rdA (addS σ j C c0 c1 c2 c3) (4 + j) (4 * k + 3) = if k = C then c3 else rdA σ (4 + j) (4 * k + 3)) := by
  unfold addS
  by_cases h : k = C
  · subst h
    refine ⟨?_, ?_, ?_, ?_⟩ <;> rw [if_pos rfl]
    · rw [rA_w2s, if_neg (by omega), rA_w2s, if_neg (by omega), rA_w2s, if_neg (by omega), rA_w2s, if_pos rfl]
    · rw [rA_w2s, if_neg (by omega), rA_w2s, if_neg (by omega), rA_w2s, if_pos rfl]
    · rw [rA_w2s, if_neg (by omega), rA_w2s, if_pos rfl]
    · rw [rA_w2s, if_pos rfl]
  · refine ⟨?_, ?_, ?_, ?_⟩ <;> rw [if_neg h, rA_w2s, if_neg (by omega), rA_w2s, if_neg (by omega), rA_w2s, if_neg (by omega), rA_w2s, if_neg (by omega)] <;> rfl
theorem add_is {j C : Nat} {c0 c1 c2 c3 r : Int32} {σ0 σ : S_} (e : rdI σ0 (5 + j) = nI C) (hC : C ≤ 8) (h : post_X3_add j c0 c1 c2 c3 σ0 r σ) : (C = limN j ∧ r = -4 ∧ σ = σ0) ∨ (C < limN j ∧ r = nI C ∧ σ = addS σ0 j C c0 c1 c2 c3) := by
  obtain ⟨C', hC', e', h⟩ := h
  have hl := limN_le j
  rw [e, z_eq (by omega) (by omega)] at e'
  subst e'
  exact h
theorem rc0_addT {a : AS} {σ : S_} (h : RC0 a σ) {d p s : Nat} (hd : d < 6) (hp : p < nP a) (hs : s < 40) (hT : nT a < 6) : RC0 (addT a d p s) (addS σ 0 (nT a) (nI p) (nI s) (nI d) 0) := by
  obtain ⟨⟨w1, w2, w3, w4, w5, w6, w7, w8, w9, w10, w11, w12, w13, w14, w15, w16⟩, e2, e5, e6, e7, e8, ht, hm, hn, hr, hH, hpp⟩ := h
  have ad : ∀ t, aDeed (addT a d p s) t = (if t = nT a then d else aDeed a t) := fun _ => rfl
  have at' : ∀ t, aTo (addT a d p s) t = (if t = nT a then p else aTo a t) := fun _ => rfl
  have as' : ∀ t, aTin (addT a d p s) t = (if t = nT a then s else aTin a t) := fun _ => rfl
  have ap : ∀ t, aPar (addT a d p s) t = (if t = nT a then 0 else aPar a t) := fun _ => rfl
  have aT : nT (addT a d p s) = nT a + 1 := rfl
  refine ⟨⟨w1, w2, w3, w4, by rw [aT]; omega, w6, w7, w8, w9, w10, fun t htt => ?_, w12, w13, fun k hk => ?_, w15, fun h0 => ?_⟩, e2, rfl, e6, e7, e8, fun t htt => ?_, hm, hn, hr, hH, hpp⟩
  · rw [aT] at htt
    rw [ad, at', as', ap]
    by_cases e : t = nT a
    · rw [if_pos e, if_pos e, if_pos e, if_pos e]; exact ⟨hd, hp, hs, Nat.zero_le 1⟩
    · rw [if_neg e, if_neg e, if_neg e, if_neg e]; exact w11 t (by omega)
  · obtain ⟨q1, q2, q3⟩ := w14 k hk
    exact ⟨q1, Nat.lt_succ_of_lt q2, q3⟩
  · exact absurd (show nP a = 0 from h0) (by omega)
  · rw [aT] at htt
    obtain ⟨r0, r1, r2, r3⟩ := addS_r σ 0 (nT a) (nI p) (nI s) (nI d) 0 t
    rw [ad, at', as', ap]
    refine ⟨r0.trans ?_, r1.trans ?_, r2.trans ?_, r3.trans ?_⟩ <;> by_cases e : t = nT a
    · rw [if_pos e, if_pos e]
    · rw [if_neg e, if_neg e]; exact (ht t (by omega)).1
    · rw [if_pos e, if_pos e]
    · rw [if_neg e, if_neg e]; exact (ht t (by omega)).2.1
    · rw [if_pos e, if_pos e]
    · rw [if_neg e, if_neg e]; exact (ht t (by omega)).2.2.1
    · rw [if_pos e, if_pos e]; rfl
    · rw [if_neg e, if_neg e]; exact (ht t (by omega)).2.2.2
theorem rc_addT {a : AS} {σ : S_} (h : RC a σ) {d p s : Nat} (hd : d < 6) (hp : p < nP a) (hs : s < 40) (hT : nT a < 6) : RC (addT a d p s) (addS σ 0 (nT a) (nI p) (nI s) (nI d) 0) :=
  ⟨rc0_addT h.1 hd hp hs hT, h.2.1, h.2.2.1, rc1_mono h.2.2.2 (fun k hk => by rw [addS_I, if_neg (by omega)]) (fun j hj => addS_A _ _ _ _ _ _ _ _ (by omega)) rfl rfl (fun _ => rfl) (fun _ => rfl) (fun _ _ => rfl)⟩
theorem lim40 : (40 : Int32) = nI 40 := rfl
theorem lim6 : (6 : Int32) = nI 6 := rfl
theorem lim3 : (3 : Int32) = nI 3 := rfl
theorem sp_X8_tale : Sp_X8_tale := by
  intro deed p season a σ hp
  have hC : RC a σ := hp
  have hl := rc_le hC.1
  -- the end, where the tale is told
  have fin : ∀ q : Nat, inR deed 6 → inR p (nP a) → inR season 40 → p = nI q → q < nP a → (pre_X3_add 0 p season deed 0 σ) ∧ (∀ (r : Int32) (σ1 : S_), post_X3_add 0 p season deed 0 σ r σ1 → post_X8_tale deed p season a σ r σ1) := by
    intro q hd hpp hs ep hq
    refine ⟨rc_l0 hC.1, fun r σ1 h => ?_⟩
    obtain ⟨d, hd', rfl⟩ := (inR_iff (by decide)).mp hd
    obtain ⟨s, hs', rfl⟩ := (inR_iff (by decide)).mp hs
    subst ep
    have e0 : rdI σ (5 + 0) = nI (nT a) := rc_T hC.1
    have t1 : toN (nI d) = d := z_cl (by omega)
    have t2 : toN (nI q) = q := z_cl (by omega)
    have t3 : toN (nI s) = s := z_cl (by omega)
    have k1 : ¬ ¬ (inR (nI d) 6 ∧ inR (nI q) (nP a)) := fun z => z ⟨hd, hpp⟩
    have k2 : ¬ ¬ inR (nI s) 40 := fun z => z hs
    unfold post_X8_tale res_tale nxt_tale
    simp only [if_neg k1, if_neg k2]
    rw [t1, t2, t3]
    rcases add_is e0 (by omega) h with ⟨h1, h2, h3⟩ | ⟨h1, h2, h3⟩
    · have h6 : nT a = 6 := h1
      rw [if_pos h6, if_pos h6]; exact ⟨h2, h3 ▸ hC⟩
    · have h6 : nT a < 6 := h1
      have h7 : ¬ nT a = 6 := by omega
      rw [if_neg h7, if_neg h7, h3]; exact ⟨h2, rc_addT hC hd' hq hs' h6⟩
  have no : ¬ (inR deed 6 ∧ inR p (nP a)) → post_X8_tale deed p season a σ (-1) σ := by
    intro h; exact ⟨by unfold res_tale; rw [if_pos h], by unfold nxt_tale; rw [if_pos h]; exact hC⟩
  have no2 : (inR deed 6 ∧ inR p (nP a)) → ¬ inR season 40 → post_X8_tale deed p season a σ (-2) σ := by
    intro h h2; have h3 : ¬ ¬ (inR deed 6 ∧ inR p (nP a)) := fun z => z h
    exact ⟨by unfold res_tale; rw [if_neg h3, if_pos h2], by unfold nxt_tale; rw [if_neg h3, if_pos h2]; exact hC⟩
  refine ⟨fun h => ?_, fun h => ⟨rc_pe hC.1, fun hn => ?_, fun q hq => ⟨trivial, ?_⟩⟩⟩
  · rw [b2i_0] at h
    exact ref_use (Q := fun r => post_X8_tale deed p season a σ r σ) (K := False) (I := inR season 40) (by decide) b2i_k (fun _ => no (fun z => h z.1)) (fun z => z.elim) (fun z => z.elim) (fun z => z.elim)
  · exact ref_use (Q := fun r => post_X8_tale deed p season a σ r σ) (K := False) (I := inR season 40) (by decide) b2i_k (fun _ => no (fun z => pe_no hC.1 hn z.2)) (fun z => z.elim) (fun z => z.elim) (fun z => z.elim)
  · rw [b2i_0, Classical.not_not] at h
    obtain ⟨q1, q2, q3, q4⟩ := pe_so hC.1 hq
    exact ref_use (Q := fun r => post_X8_tale deed p season a σ r σ) (K := True) (I := inR season 40) (by decide) b2i_k (fun z => absurd trivial z) (fun _ => no2 ⟨h, q1⟩) (fun _ _ z => absurd ((nP0 hC.1).mp z) (by omega)) (fun _ hs _ => fin q h q1 hs q2 q3)
