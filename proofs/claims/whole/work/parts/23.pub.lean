theorem reach_pre {a : AS} {σ : S_} (hC : RC a σ) {season : Int32} {s : Nat} (h : season = nI s) (hs : s < 40) : pre_X8_reach season (rdI σ 3) a s σ := ⟨hC.1, ⟨h, hs⟩, hC.2.1, hC.2.2.1⟩
theorem sp_X8_remembers : Sp_X8_remembers := by
  intro p season a σ hp
  have hC : RC a σ := hp
  have hl := rc_le hC.1
  have no : ¬ inR p (nP a) → post_X8_remembers p season a σ (-1) σ := fun z => ⟨by unfold res_remembers; rw [if_pos z], hC⟩
  refine ⟨rc_pe hC.1, fun hn => ?_, fun q hq => ⟨trivial, ?_⟩⟩
  · exact ref_use (Q := fun r => post_X8_remembers p season a σ r σ) (K := False) (I := inR season 40) (by decide) b2i_k (fun _ => no (pe_no hC.1 hn)) (fun z => z.elim) (fun z => z.elim) (fun z => z.elim)
  · obtain ⟨q1, rfl, q3, q4⟩ := pe_so hC.1 hq
    have k1 : ¬ ¬ inR (nI q) (nP a) := fun z => z q1
    refine ref_use (Q := fun r => post_X8_remembers (nI q) season a σ r σ) (K := True) (I := inR season 40) (by decide) b2i_k (fun z => absurd trivial z) (fun _ z2 => ⟨by unfold res_remembers; rw [if_neg k1, if_pos z2], hC⟩) (fun _ _ z => absurd ((nP0 hC.1).mp z) (by omega)) (fun _ hs _ => ?_)
    obtain ⟨s, hs', rfl⟩ := (inR_iff (n := 40) (by decide)).mp hs
    have k2 : ¬ ¬ inR (nI s) 40 := fun z => z hs
    have t1 : toN (nI s) = s := z_cl (by omega)
    refine ⟨a, s, reach_pre hC rfl hs', fun σ5 h5 => ⟨a, _, s + 1, q, ⟨h5.1.rc0 hC.1, h5.2.1, rfl, q3⟩, fun r hr => ⟨?_, h5.1.rc hC⟩⟩⟩
    unfold res_remembers; rw [if_neg k1, if_neg k2, t1, q4]; exact hr
theorem sp_X8_hearth : Sp_X8_hearth := by
  intro p season a σ hp
  have hC : RC a σ := hp
  have hl := rc_le hC.1
  have no : ¬ inR p (nP a) → post_X8_hearth p season a σ (-1) σ := fun z => ⟨by unfold res_hearth; rw [if_pos z], hC⟩
  refine ⟨rc_pe hC.1, fun hn => ?_, fun q hq => ⟨trivial, ?_⟩⟩
  · exact ref_use (Q := fun r => post_X8_hearth p season a σ r σ) (K := False) (I := inR season 40) (by decide) b2i_k (fun _ => no (pe_no hC.1 hn)) (fun z => z.elim) (fun z => z.elim) (fun z => z.elim)
  · obtain ⟨q1, rfl, q3, q4⟩ := pe_so hC.1 hq
    have k1 : ¬ ¬ inR (nI q) (nP a) := fun z => z q1
    refine ref_use (Q := fun r => post_X8_hearth (nI q) season a σ r σ) (K := True) (I := inR season 40) (by decide) b2i_k (fun z => absurd trivial z) (fun _ z2 => ⟨by unfold res_hearth; rw [if_neg k1, if_pos z2], hC⟩) (fun _ _ z => absurd ((nP0 hC.1).mp z) (by omega)) (fun _ hs _ => ?_)
    obtain ⟨s, hs', rfl⟩ := (inR_iff (n := 40) (by decide)).mp hs
    have k2 : ¬ ¬ inR (nI s) 40 := fun z => z hs
    have t1 : toN (nI s) = s := z_cl (by omega)
    refine ⟨a, s, reach_pre hC rfl hs', fun σ5 h5 => ⟨a, _, s + 1, q, ⟨h5.1.rc0 hC.1, h5.2.1, rfl, q3⟩, fun r hr => ⟨?_, h5.1.rc hC⟩⟩⟩
    unfold res_hearth; rw [if_neg k1, if_neg k2, t1, q4]; exact hr
theorem sp_X8_told : Sp_X8_told := by
  intro h season a σ hp
  have hC : RC a σ := hp
  refine ref_use (Q := fun r => post_X8_told h season a σ r σ) (K := inR h 3) (I := inR season 40) b2i_k b2i_k (fun z => ⟨by unfold res_told; rw [if_pos z], hC⟩) (fun z1 z2 => ?_) (fun z1 z2 z3 => ?_) (fun hh hs h0 => ?_)
  · have k1 : ¬ ¬ inR h 3 := fun z => z z1
    exact ⟨by unfold res_told; rw [if_neg k1, if_pos z2], hC⟩
  · have k1 : ¬ ¬ inR h 3 := fun z => z z1
    have k2 : ¬ ¬ inR season 40 := fun z => z z2
    exact ⟨by unfold res_told; rw [if_neg k1, if_neg k2, if_pos ((nP0 hC.1).mp z3)], hC⟩
  · rw [nP0 hC.1] at h0
    have k1 : ¬ ¬ inR h 3 := fun z => z hh
    have k2 : ¬ ¬ inR season 40 := fun z => z hs
    obtain ⟨h', hh', rfl⟩ := (inR_iff (n := 3) (by decide)).mp hh
    obtain ⟨s, hs', rfl⟩ := (inR_iff (n := 40) (by decide)).mp hs
    have t1 : toN (nI s) = s := z_cl (by omega)
    have t2 : toN (nI h') = h' := z_cl (by omega)
    refine ⟨a, s, reach_pre hC rfl hs', fun σ5 h5 => ⟨a, _, s + 1, h', ⟨h5.2.2, rfl, hh'⟩, fun r hr => ⟨?_, h5.1.rc hC⟩⟩⟩
    unfold res_told; rw [if_neg k1, if_neg k2, if_neg h0, t1, t2]; exact hr
theorem sp_X8_forbidden : Sp_X8_forbidden := by
  intro season a σ hp
  have hC : RC a σ := hp
  refine ⟨fun h => ⟨fun h2 => ?_, fun h2 => ?_⟩, fun h => ?_⟩
  · rw [b2i_0, Classical.not_not] at h
    rw [b2i_0, nP0 hC.1] at h2
    have hs : inR season 40 := h
    have k2 : ¬ ¬ inR season 40 := fun z => z hs
    obtain ⟨s, hs', rfl⟩ := (inR_iff (n := 40) (by decide)).mp hs
    have t1 : toN (nI s) = s := z_cl (by omega)
    refine ⟨a, s, reach_pre hC rfl hs', fun σ3 h3 => ⟨a, _, s + 1, ⟨h3.1.rc0 hC.1, h3.2.1, by omega⟩, fun r hr => ⟨?_, h3.1.rc hC⟩⟩⟩
    unfold res_forbidden; rw [if_neg k2, if_neg h2, t1]; exact hr
  · rw [b2i_0, Classical.not_not] at h h2
    rw [nP0 hC.1] at h2
    have k2 : ¬ ¬ inR season 40 := fun z => z h
    exact ⟨by unfold res_forbidden; rw [if_neg k2, if_pos h2], hC⟩
  · rw [b2i_0] at h
    have h : ¬ inR season 40 := h
    exact ⟨by unfold res_forbidden; rw [if_pos h], hC⟩
theorem has_t {a : AS} {σ : S_} (hC : RC0 a σ) (t : Int32) : fn_X3_has 0 t σ = b2i (inR t (nT a)) := by
  apply b2i_c
  rw [show rdI σ (5 + 0) = nI (nT a) from rc_T hC]
theorem sp_X8_dies : Sp_X8_dies := by
  intro t a σ hp
  have hC : RC a σ := hp
  have hl := rc_le hC.1
  refine ⟨fun h => ?_, fun h => ?_⟩
  · rw [has_t hC.1, b2i_0, Classical.not_not] at h
    have k1 : ¬ ¬ inR t (nT a) := fun z => z h
    obtain ⟨q, hq, rfl⟩ := (inR_iff (by omega)).mp h
    have t1 : toN (nI q) = q := z_cl (by omega)
    refine ⟨a, q, ⟨hC.1, ⟨rfl, hq⟩, hC.2.1, hC.2.2.1⟩, fun r σ3 h3 => ⟨?_, h3.2.rc hC⟩⟩
    unfold res_dies; rw [if_neg k1, t1]; exact h3.1
  · rw [has_t hC.1, b2i_0] at h
    exact ⟨by unfold res_dies; rw [if_pos h], hC⟩
theorem sp_X8_free : Sp_X8_free := by
  intro deed season a σ0 hp
  have hC : RC a σ0 := hp
  refine ref_use (Q := fun r => post_X8_free deed season a σ0 r σ0) (K := inR deed 6) (I := inR season 40) b2i_k b2i_k (fun z => ⟨by unfold res_free; rw [if_pos z], hC⟩) (fun z1 z2 => ?_) (fun z1 z2 z3 => ?_) (fun hd hs h0 => ?_)
  · have k1 : ¬ ¬ inR deed 6 := fun z => z z1
    exact ⟨by unfold res_free; rw [if_neg k1, if_pos z2], hC⟩
  · have k1 : ¬ ¬ inR deed 6 := fun z => z z1
    have k2 : ¬ ¬ inR season 40 := fun z => z z2
    exact ⟨by unfold res_free; rw [if_neg k1, if_neg k2, if_pos ((nP0 hC.1).mp z3)], hC⟩
  · rw [nP0 hC.1] at h0
    have k1 : ¬ ¬ inR deed 6 := fun z => z hd
    have k2 : ¬ ¬ inR season 40 := fun z => z hs
    obtain ⟨d, hd', rfl⟩ := (inR_iff (n := 6) (by decide)).mp hd
    obtain ⟨s, hs', rfl⟩ := (inR_iff (n := 40) (by decide)).mp hs
    have t1 : toN (nI s) = s := z_cl (by omega)
    have t2 : toN (nI d) = d := z_cl (by omega)
    have hres : res_free (nI d) (nI s) a = ifI (freeS a d s = 40) (-9) (nI (freeS a d s)) := by
      unfold res_free; rw [if_neg k1, if_neg k2, if_neg h0, t1, t2]
    refine ⟨a, ⟨hC.1, hC.2.1, hC.2.2.1⟩, fun σ2 h2 => ?_⟩
    have key : ∀ k i (σ : S_), i + k = 40 → sameB σ0 σ → RunC a (runR a i) i i σ → (∀ j, j < i → (decide (s ≤ j) && !banB a d j) = false) → vl_X8_free_47 (nI d) (nI s) (post_X8_free (nI d) (nI s) a σ0) (k + 1) (nI i) σ := by
      intro k
      induction k with
      | zero =>
        intro i σ hi hs2 hR hn
        have : i = 40 := by omega
        subst this
        refine ⟨fun _ => ⟨?_, hs2.rc hC⟩, fun h => absurd (by rw [lim40, z_le (by omega) (by omega)]; omega) h⟩
        rw [hres, ifI_t]
        exact findF_is (Nat.le_refl 40) hn (fun h => absurd h (Nat.lt_irrefl 40))
      | succ k ih =>
        intro i σ hi hs2 hR hn
        refine ⟨fun h => ?_, fun _ => ⟨a, _, i, ⟨hs2.rc0 hC.1, hR, by omega⟩, fun σ8 h8 => ⟨fun hlt => ?_, fun hge => ⟨a, _, i + 1, d, ⟨(hs2.tr h8.1).rc0 hC.1, h8.2.1, by omega, rfl, hd'⟩, fun r13 h13 => ⟨fun e => ?_, fun e => ?_⟩⟩⟩⟩⟩
        · rw [lim40, z_le (by omega) (by omega)] at h; omega
        · rw [z_lt (by omega) (by omega)] at hlt
          rw [nI_1]
          refine ih (i + 1) σ8 (by omega) (hs2.tr h8.1) h8.2.1 (fun j hj => ?_)
          by_cases e : j = i
          · rw [e, decide_eq_false (by omega)]; rfl
          · exact hn j (by omega)
        · rw [show r13 = b2i (banB a d i = true) from h13, b2i_0, Classical.not_not] at e
          rw [nI_1]
          refine ih (i + 1) σ8 (by omega) (hs2.tr h8.1) h8.2.1 (fun j hj => ?_)
          by_cases e2 : j = i
          · rw [e2, e]; simp
          · exact hn j (by omega)
        · rw [show r13 = b2i (banB a d i = true) from h13, b2i_0, Bool.not_eq_true] at e
          rw [z_lt (by omega) (by omega)] at hge
          have hf : freeS a d s = i := findF_is (by omega) hn (fun _ => by rw [e, decide_eq_true (by omega)]; rfl)
          refine ⟨?_, (hs2.tr h8.1).rc hC⟩
          rw [hres, hf, ifI_f (by omega)]
    exact ⟨40 + 1, key 40 0 σ2 (by omega) h2.1 h2.2 (fun j hj => absurd hj (Nat.not_lt_zero j))⟩
theorem sp_X8_clash : Sp_X8_clash := by
  intro what a σ0 hp
  have hC : RC a σ0 := hp
  have hl := rc_le hC.1
  refine ⟨fun h => ⟨fun h2 => ?_, fun h2 => ?_⟩, fun h => ?_⟩
  · rw [b2i_0, Classical.not_not] at h
    rw [b2i_0, nP0 hC.1] at h2
    have k2 : ¬ ¬ inR what 2 := fun z => z h
    have hres : res_clash what a = if clashS a = 40 then -9 else if what = 0 then nI (clashS a) else nI (unmet a (forb a (clashS a))) := by
      unfold res_clash; rw [if_neg k2, if_neg h2]
    refine ⟨a, ⟨hC.1, hC.2.1, hC.2.2.1⟩, fun σ2 h2 => ?_⟩
    have key : ∀ k i (σ : S_), i + k = 40 → sameB σ0 σ → RunC a (runR a i) i i σ → (∀ j, j < i → (!decide (unmet a (forb a j) = nN a)) = false) → vl_X8_clash_47 what (post_X8_clash what a σ0) (k + 1) (nI i) σ := by
      intro k
      induction k with
      | zero =>
        intro i σ hi hs2 hR hn
        have : i = 40 := by omega
        subst this
        refine ⟨fun _ => ⟨?_, hs2.rc hC⟩, fun h => absurd (by rw [lim40, z_le (by omega) (by omega)]; omega) h⟩
        rw [hres, if_pos]
        exact findF_is (Nat.le_refl 40) hn (fun h => absurd h (Nat.lt_irrefl 40))
      | succ k ih =>
        intro i σ hi hs2 hR hn
        refine ⟨fun h => ?_, fun _ => ⟨a, _, i, ⟨hs2.rc0 hC.1, hR, by omega⟩, fun σ8 h8 => ⟨a, _, i + 1, ⟨(hs2.tr h8.1).rc0 hC.1, h8.2.1, by omega⟩, fun r12 h12 => ⟨a, forb a i, ⟨(hs2.tr h8.1).rc0 hC.1, h12, forR_lt hC.1.1 _ _ _ (Nat.le_refl _)⟩, fun r15 h15 => ?_⟩⟩⟩⟩
        · rw [lim40, z_le (by omega) (by omega)] at h; omega
        · have hu : unmet a (forb a i) ≤ nN a := findF_le
          have n9 : ∀ m, m < 100 → ¬ nI m = (-9 : Int32) := by decide +kernel
          have h15' : r15 = ifI (unmet a (forb a i) = nN a) (-9) (nI (unmet a (forb a i))) := h15
          refine ⟨fun e => ?_, fun e => ?_⟩
          · have hu2 : unmet a (forb a i) = nN a := by
              by_cases c : unmet a (forb a i) = nN a
              · exact c
              · rw [h15', ifI_f c] at e; exact absurd e (n9 _ (by omega))
            rw [nI_1]
            refine ih (i + 1) σ8 (by omega) (hs2.tr h8.1) h8.2.1 (fun j hj => ?_)
            by_cases e2 : j = i
            · rw [e2, decide_eq_true hu2]; rfl
            · exact hn j (by omega)
          · have hu2 : ¬ unmet a (forb a i) = nN a := fun c => e (by rw [h15', ifI_t c])
            have hf : clashS a = i := findF_is (by omega) hn (fun _ => by rw [decide_eq_false hu2]; rfl)
            refine ⟨fun hw => ⟨?_, (hs2.tr h8.1).rc hC⟩, fun hw => ⟨?_, (hs2.tr h8.1).rc hC⟩⟩
            · rw [hres, hf, if_neg (by omega), if_neg hw, h15', ifI_f hu2]
            · rw [hres, hf, if_neg (by omega), if_pos hw]
    exact ⟨40 + 1, key 40 0 σ2 (by omega) h2.1 h2.2 (fun j hj => absurd hj (Nat.not_lt_zero j))⟩
  · rw [b2i_0, Classical.not_not] at h h2
    rw [nP0 hC.1] at h2
    have k2 : ¬ ¬ inR what 2 := fun z => z h
    exact ⟨by unfold res_clash; rw [if_neg k2, if_pos h2], hC⟩
  · rw [b2i_0] at h
    have h : ¬ inR what 2 := h
    exact ⟨by unfold res_clash; rw [if_pos h], hC⟩
theorem rc0_paid {a : AS} {σ : S_} (h : RC0 a σ) {m : Nat} (hm : m < 2 ^ nP a) : RC0 (setN a 1 m) σ := by
  obtain ⟨⟨w1, w2, w3, w4, w5, w6, w7, w8, w9, w10, w11, w12, w13, w14, w15, w16⟩, e2, e5, e6, e7, e8, ht, hm', hn, hr, hH, hpp⟩ := h
  exact ⟨⟨w1, w2, hm, w4, w5, w6, w7, w8, w9, w10, w11, w12, w13, w14, w15, w16⟩, e2, e5, e6, e7, e8, ht, hm', hn, hr, hH, hpp⟩
theorem rc0_law {a : AS} {σ : S_} (h : RC0 a σ) {v : Nat} (hv : v < 3) (h0 : ¬ nP a = 0) : RC0 (setN a 2 v) σ := by
  obtain ⟨⟨w1, w2, w3, w4, w5, w6, w7, w8, w9, w10, w11, w12, w13, w14, w15, w16⟩, e2, e5, e6, e7, e8, ht, hm', hn, hr, hH, hpp⟩ := h
  exact ⟨⟨w1, w2, w3, hv, w5, w6, w7, w8, w9, w10, w11, w12, w13, w14, w15, fun z => absurd z h0⟩, e2, e5, e6, e7, e8, ht, hm', hn, hr, hH, hpp⟩
theorem sp_X8_paid : Sp_X8_paid := by
  intro a σ0 hp
  have hC : RC a σ0 := hp
  have hl := rc_le hC.1
  refine ⟨fun h2 => ?_, fun h2 => ?_⟩
  · rw [b2i_0, nP0 hC.1] at h2
    have hres : res_paid a = nI (maskB (fun p => soB (setN a 1 (aPaid a ||| 2 ^ p))) (nP a)) := by unfold res_paid; rw [if_neg h2]
    have key : ∀ k i (σ : S_), i + k = nP a → sameB σ0 σ → vl_X8_paid_17 (post_X8_paid a σ0) (k + 1) (nI (maskB (fun p => soB (setN a 1 (aPaid a ||| 2 ^ p))) i)) (nI i) σ := by
      intro k
      induction k with
      | zero =>
        intro i σ hi hs
        have : i = nP a := by omega
        subst this
        exact ⟨fun _ => ⟨hres.symm, hs.rc hC⟩, fun h => absurd (by rw [rc_P (hs.rc0 hC.1), z_le (by omega) (by omega)]; omega) h⟩
      | succ k ih =>
        intro i σ hi hs
        have hC' := hs.rc hC
        have hm : aPaid a ||| 2 ^ i < 2 ^ nP a := Nat.or_lt_two_pow hC.1.1.2.2.1 (Nat.pow_lt_pow_right (by decide) (by omega))
        refine ⟨fun h => ?_, fun _ => ⟨setN a 1 (aPaid a ||| 2 ^ i), ⟨rc0_paid hC'.1 hm, ?_, hC'.2.2.1⟩, fun r6 σ5 h5 => ⟨fun e => ?_, fun e => ?_⟩⟩⟩
        · rw [rc_P hC'.1, z_le (by omega) (by omega)] at h; omega
        · rw [hC'.2.1, sh1 _ (by omega), nI_or]; rfl
        · rw [show r6 = b2i (soB (setN a 1 (aPaid a ||| 2 ^ i)) = true) from h5.1, b2i_0] at e
          have := ih (i + 1) σ5 (by omega) (hs.tr h5.2)
          rw [maskB, if_neg e] at this
          rw [nI_1]; exact this
        · rw [show r6 = b2i (soB (setN a 1 (aPaid a ||| 2 ^ i)) = true) from h5.1, b2i_0, Classical.not_not] at e
          have := ih (i + 1) σ5 (by omega) (hs.tr h5.2)
          rw [maskB, if_pos e] at this
          rw [nI_1, sh1 _ (by omega), nI_or]; exact this
    exact ⟨nP a + 1, key (nP a) 0 σ0 (by omega) (rf_sameB _)⟩
  · rw [b2i_0, Classical.not_not, nP0 hC.1] at h2
    exact ⟨by unfold res_paid; rw [if_pos h2], hC⟩
theorem sp_X8_laws : Sp_X8_laws := by
  intro a σ0 hp
  have hC : RC a σ0 := hp
  refine ⟨fun h2 => ?_, fun h2 => ?_⟩
  · rw [b2i_0, nP0 hC.1] at h2
    have hres : res_laws a = nI (maskB (fun v => soB (setN a 2 v)) 3) := by unfold res_laws; rw [if_neg h2]
    have key : ∀ k i (σ : S_), i + k = 3 → sameB σ0 σ → vl_X8_laws_17 (post_X8_laws a σ0) (k + 1) (nI (maskB (fun v => soB (setN a 2 v)) i)) (nI i) σ := by
      intro k
      induction k with
      | zero =>
        intro i σ hi hs
        have : i = 3 := by omega
        subst this
        exact ⟨fun _ => ⟨hres.symm, hs.rc hC⟩, fun h => absurd (by rw [lim3, z_le (by omega) (by omega)]; omega) h⟩
      | succ k ih =>
        intro i σ hi hs
        have hC' := hs.rc hC
        refine ⟨fun h => ?_, fun _ => ⟨setN a 2 i, ⟨rc0_law hC'.1 (by omega) h2, hC'.2.1, rfl⟩, fun r6 σ5 h5 => ⟨fun e => ?_, fun e => ?_⟩⟩⟩
        · rw [lim3, z_le (by omega) (by omega)] at h; omega
        · rw [show r6 = b2i (soB (setN a 2 i) = true) from h5.1, b2i_0] at e
          have := ih (i + 1) σ5 (by omega) (hs.tr h5.2)
          rw [maskB, if_neg e] at this
          rw [nI_1]; exact this
        · rw [show r6 = b2i (soB (setN a 2 i) = true) from h5.1, b2i_0, Classical.not_not] at e
          have := ih (i + 1) σ5 (by omega) (hs.tr h5.2)
          rw [maskB, if_pos e] at this
          rw [nI_1, sh1 _ (by omega), nI_or]; exact this
    exact ⟨3 + 1, key 3 0 σ0 (by omega) (rf_sameB _)⟩
  · rw [b2i_0, Classical.not_not, nP0 hC.1] at h2
    exact ⟨by unfold res_laws; rw [if_pos h2], hC⟩
