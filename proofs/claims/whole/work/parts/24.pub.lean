theorem va_up_id {α : Type} (f : Nat → α) (k : Nat) : va_up f k (f k) = f := by
  funext x; unfold va_up; by_cases c : x = k
  · rw [if_pos c, c]
  · rw [if_neg c]
theorem set2_id (a : AS) (j i : Nat) : set2 a j i (a.2.1 j i) = a := by
  show (a.1, va_up a.2.1 j (va_up (a.2.1 j) i (a.2.1 j i)), a.2.2) = a
  rw [va_up_id, va_up_id]
theorem set2_set2 (a : AS) (j i x y : Nat) : set2 (set2 a j i x) j i y = set2 a j i y := by
  show (a.1, va_up (va_up a.2.1 j (va_up (a.2.1 j) i x)) j (va_up (va_up a.2.1 j (va_up (a.2.1 j) i x) j) i y), a.2.2) = (a.1, va_up a.2.1 j (va_up (a.2.1 j) i y), a.2.2)
  have h : va_up a.2.1 j (va_up (a.2.1 j) i x) j = va_up (a.2.1 j) i x := by unfold va_up; rw [if_pos rfl]
  rw [h, bx_uu, bx_uu]
theorem rc_to {a : AS} {σ : S_} (h : RC a σ) {t p : Nat} (htt : t < nT a) (hp : p < nP a) : RC (set2 a 4 t p) (wr2 σ 4 (4 * t) (nI p)) := by
  obtain ⟨⟨⟨w1, w2, w3, w4, w5, w6, w7, w8, w9, w10, w11, w12, w13, w14, w15, w16⟩, e2, e5, e6, e7, e8, ht, hm, hn, hr, hH, hpp⟩, g3, g4, g1⟩ := h
  have ft : ∀ x, aTo (set2 a 4 t p) x = if x = t then p else aTo a x := fun _ => rfl
  refine ⟨⟨⟨w1, w2, w3, w4, w5, w6, w7, w8, w9, w10, fun x hx => ?_, w12, w13, w14, w15, w16⟩, e2, e5, e6, e7, e8, fun x hx => ?_, ?_, ?_, ?_, hH, hpp⟩, g3, g4, rc1_mono g1 (fun _ _ => rfl) (fun j hj => rA_w2n _ _ _ _ _ (by omega)) rfl rfl (fun _ => rfl) (fun _ => rfl) (fun _ _ => rfl)⟩
  · obtain ⟨v1, v2, v3, v4⟩ := w11 x hx
    refine ⟨v1, ?_, v3, v4⟩
    rw [ft]; split
    · exact hp
    · exact v2
  · obtain ⟨v1, v2, v3, v4⟩ := ht x hx
    rw [ft]
    have b := fun i => rA_w2s σ 4 (4 * t) (nI p) i
    refine ⟨(b _).trans ?_, (b _).trans ?_, (b _).trans ?_, (b _).trans ?_⟩
    · by_cases c : x = t
      · rw [if_pos (by omega), if_pos c]
      · rw [if_neg (by omega), if_neg c]; exact v1
    · rw [if_neg (by omega)]; exact v2
    · rw [if_neg (by omega)]; exact v3
    · rw [if_neg (by omega)]; exact v4
  · rw [rA_w2n _ _ _ _ _ (show (5 : Nat) ≠ 4 by decide)]; exact hm
  · rw [rA_w2n _ _ _ _ _ (show (6 : Nat) ≠ 4 by decide)]; exact hn
  · rw [rA_w2n _ _ _ _ _ (show (7 : Nat) ≠ 4 by decide)]; exact hr
theorem sp_X8_comes : Sp_X8_comes := by
  intro t a σ0 hp
  have hC : RC a σ0 := hp
  have hl := rc_le hC.1
  refine ⟨fun h => ⟨rc_l0 hC.1, ?_⟩, fun h => ?_⟩
  · rw [has_t hC.1, b2i_0, Classical.not_not] at h
    have k1 : ¬ ¬ inR t (nT a) := fun z => z h
    obtain ⟨q, hq, rfl⟩ := (inR_iff (by omega)).mp h
    have t1 : toN (nI q) = q := z_cl (by omega)
    have hres : res_comes (nI q) a = nI (maskB (fun p => soB (set2 a 4 q p)) (nP a)) := by unfold res_comes; rw [if_neg k1, t1]
    have hw := wf_t hC.1.1 hq
    have cnt : ∀ x (σ : S_), RC (set2 a 4 q x) σ → rdI σ (5 + 0) = nI (nT a) := fun x σ hx => (rc_T hx.1 : rdI σ 5 = nI (nT (set2 a 4 q x)))
    have key : ∀ k i x (σ : S_), i + k = nP a → RC (set2 a 4 q x) σ → vl_X8_comes_34 (nI q) σ0 (post_X8_comes (nI q) a σ0) (k + 1) (nI (maskB (fun p => soB (set2 a 4 q p)) i)) (nI i) σ := by
      intro k
      induction k with
      | zero =>
        intro i x σ hi hx
        have : i = nP a := by omega
        subst this
        refine ⟨fun _ => ⟨rc_l0 hx.1, fun σ4 h4 => ⟨hres.symm, ?_⟩⟩, fun h => absurd (by rw [rc_P hx.1, show nP (set2 a 4 q x) = nP a from rfl, z_le (by omega) (by omega)]; omega) h⟩
        have h4' := set_is (c := 0) (cnt x σ hx) (by omega) hq (by decide) h4
        rw [(rc_t hC.1 hq).1] at h4'
        have := rc_to hx (t := q) (p := aTo a q) hq hw.2.1
        rw [set2_set2, show set2 a 4 q (aTo a q) = a from set2_id a 4 q] at this
        rw [h4']; exact this
      | succ k ih =>
        intro i x σ hi hx
        refine ⟨fun h => ?_, fun _ => ⟨rc_l0 hx.1, fun σ5 h5 => ?_⟩⟩
        · rw [rc_P hx.1, show nP (set2 a 4 q x) = nP a from rfl, z_le (by omega) (by omega)] at h; omega
        · have h5' := set_is (c := 0) (cnt x σ hx) (by omega) hq (by decide) h5
          have hx2 := rc_to hx (t := q) (p := i) hq (by show i < nP a; omega)
          rw [set2_set2] at hx2
          have e5 : σ5 = wr2 σ 4 (4 * q) (nI i) := h5'
          rw [← e5] at hx2
          refine ⟨set2 a 4 q i, ⟨hx2.1, hx2.2.1, hx2.2.2.1⟩, fun r8 σ7 h7 => ⟨fun e => ?_, fun e => ?_⟩⟩
          · rw [show r8 = b2i (soB (set2 a 4 q i) = true) from h7.1, b2i_0] at e
            have := ih (i + 1) i σ7 (by omega) (h7.2.rc hx2)
            rw [maskB, if_neg e] at this
            rw [nI_1]; exact this
          · rw [show r8 = b2i (soB (set2 a 4 q i) = true) from h7.1, b2i_0, Classical.not_not] at e
            have := ih (i + 1) i σ7 (by omega) (h7.2.rc hx2)
            rw [maskB, if_pos e] at this
            rw [nI_1, sh1 _ (by omega), nI_or]; exact this
    refine ⟨nP a + 1, key (nP a) 0 (aTo a q) σ0 (by omega) ?_⟩
    rw [show set2 a 4 q (aTo a q) = a from set2_id a 4 q]; exact hC
  · rw [has_t hC.1, b2i_0] at h
    exact ⟨by unfold res_comes; rw [if_pos h], hC⟩
theorem nI_and (a b : Nat) : nI a &&& nI b = nI (a &&& b) := by
  apply Int32.toBitVec_inj.mp
  show BitVec.ofNat 32 a &&& BitVec.ofNat 32 b = BitVec.ofNat 32 (a &&& b)
  apply BitVec.eq_of_getLsbD_eq
  intro i hi
  simp [BitVec.getLsbD_ofNat, hi]
theorem bc_s : ∀ m, m < 64 → fn_J6_bitCount_0f7a4 (nI m) = nI (popc m) := by decide +kernel
theorem popc_le (m : Nat) : popc m ≤ 6 := by unfold popc; repeat (first | omega | split)
theorem few_lt (a : AS) (d s : Nat) : ∀ n, n ≤ 64 → fewF a d s n = 64 ∨ fewF a d s n < n := by
  intro n
  induction n with
  | zero => intro _; exact Or.inl rfl
  | succ n ih =>
    intro hn
    rw [fewF]
    split
    · exact Or.inr (Nat.lt_succ_self n)
    · rcases ih (by omega) with h | h
      · exact Or.inl h
      · exact Or.inr (by omega)
theorem sp_X8_fewest : Sp_X8_fewest := by
  intro deed season a σ0 hp
  have hC : RC a σ0 := hp
  have hl := rc_le hC.1
  refine ref_use (Q := fun r => post_X8_fewest deed season a σ0 r σ0) (K := inR deed 6) (I := inR season 40) b2i_k b2i_k (fun z => ⟨by unfold res_fewest; rw [if_pos z], hC⟩) (fun z1 z2 => ?_) (fun z1 z2 z3 => ?_) (fun hd hs h0 => ?_)
  · have k1 : ¬ ¬ inR deed 6 := fun z => z z1
    exact ⟨by unfold res_fewest; rw [if_neg k1, if_pos z2], hC⟩
  · have k1 : ¬ ¬ inR deed 6 := fun z => z z1
    have k2 : ¬ ¬ inR season 40 := fun z => z z2
    exact ⟨by unfold res_fewest; rw [if_neg k1, if_neg k2, if_pos ((nP0 hC.1).mp z3)], hC⟩
  · rw [nP0 hC.1] at h0
    have k1 : ¬ ¬ inR deed 6 := fun z => z hd
    have k2 : ¬ ¬ inR season 40 := fun z => z hs
    obtain ⟨d, hd', rfl⟩ := (inR_iff (n := 6) (by decide)).mp hd
    obtain ⟨s, hs', rfl⟩ := (inR_iff (n := 40) (by decide)).mp hs
    have t1 : toN (nI s) = s := z_cl (by omega)
    have t2 : toN (nI d) = d := z_cl (by omega)
    have hres : res_fewest (nI d) (nI s) a = ifI (fewF a d s (2 ^ nP a) = 64) (-9) (nI (fewF a d s (2 ^ nP a))) := by
      unfold res_fewest; rw [if_neg k1, if_neg k2, if_neg h0, t1, t2]
    have hp64 : 2 ^ nP a ≤ 64 := (show 2 ^ nP a ≤ 2 ^ 6 from Nat.pow_le_pow_right (by decide) hl.1)
    have n9 : ∀ m, m < 100 → ¬ nI m = (-9 : Int32) := by decide +kernel
    have key : ∀ k m (σ : S_), m + k = 2 ^ nP a → sameB σ0 σ → vl_X8_fewest_30 (nI d) (nI s) (post_X8_fewest (nI d) (nI s) a σ0) (k + 1) (ifI (fewF a d s m = 64) (-9) (nI (fewF a d s m))) (nI m) σ := by
      intro k
      induction k with
      | zero =>
        intro m σ hm hs2
        have hC' := hs2.rc hC
        have e1 : (1 : Int32) <<< (rdI σ 2 &&& 31) = nI (2 ^ nP a) := by rw [rc_P hC'.1, sh1 _ (by omega)]
        have : m = 2 ^ nP a := by omega
        refine ⟨fun _ => ⟨by rw [hres, this], hC'⟩, fun h => absurd (by rw [e1, z_le (by omega) (by omega)]; omega) h⟩
      | succ k ih =>
        intro m σ hm hs2
        have hC' := hs2.rc hC
        have e1 : (1 : Int32) <<< (rdI σ 2 &&& 31) = nI (2 ^ nP a) := by rw [rc_P hC'.1, sh1 _ (by omega)]
        have hfl := few_lt a d s m (by omega)
        have hst : fewF a d s (m + 1) = if m &&& aPaid a = 0 ∧ (fewF a d s m = 64 ∨ popc m < popc (fewF a d s m)) ∧ banB (setN a 1 (aPaid a ||| m)) d s = false then m else fewF a d s m := by rw [fewF]
        have hm2 : aPaid a ||| m < 2 ^ nP a := Nat.or_lt_two_pow hC.1.1.2.2.1 (by omega)
        have keep : ¬ (m &&& aPaid a = 0 ∧ (fewF a d s m = 64 ∨ popc m < popc (fewF a d s m)) ∧ banB (setN a 1 (aPaid a ||| m)) d s = false) → ∀ σ', sameB σ0 σ' → vl_X8_fewest_30 (nI d) (nI s) (post_X8_fewest (nI d) (nI s) a σ0) (k + 1) (ifI (fewF a d s m = 64) (-9) (nI (fewF a d s m))) (nI m + 1) σ' := by
          intro hn σ' hs'
          have := ih (m + 1) σ' (by omega) hs'
          rw [hst, if_neg hn] at this
          rw [nI_1]; exact this
        have h01 : ∀ c : Prop, ∀ _ : Decidable c, ¬ b2i c = 0 → c := fun c _ h => by rw [b2i_0, Classical.not_not] at h; exact h
        refine ⟨fun h => ?_, fun _ => ⟨fun b => b = b2i (fewF a d s m = 64 ∨ popc m < popc (fewF a d s m)), ⟨fun h9 => ?_, fun h9 => ⟨fun h => ?_, fun h => ?_⟩⟩, fun b hb => ⟨fun e => ?_, fun e => ⟨fun e2 => ?_, fun e2 => ⟨setN a 1 (aPaid a ||| m), d, s, ⟨rc0_paid hC'.1 hm2, ⟨rfl, hd'⟩, ⟨rfl, hs'⟩, ?_, hC'.2.2.1⟩, fun r13 σ12 h12 => ⟨fun e3 => ?_, fun e3 => ?_⟩⟩⟩⟩⟩⟩
        · rw [e1, z_le (by omega) (by omega)] at h; omega
        · refine (b2i_t (Or.inl ?_)).symm
          by_cases c : fewF a d s m = 64
          · exact c
          · rw [ifI_f c] at h9; exact absurd h9 (n9 _ (by omega))
        · have c : ¬ fewF a d s m = 64 := fun c => h9 (ifI_t c)
          have := popc_le m
          have := popc_le (fewF a d s m)
          rw [ifI_f c, bc_s _ (by omega), bc_s _ (by omega), z_le (by omega) (by omega)] at h
          exact (b2i_f (fun q => by omega)).symm
        · have c : ¬ fewF a d s m = 64 := fun c => h9 (ifI_t c)
          have := popc_le m
          have := popc_le (fewF a d s m)
          rw [ifI_f c, bc_s _ (by omega), bc_s _ (by omega), z_le (by omega) (by omega)] at h
          exact (b2i_t (Or.inr (by omega))).symm
        · rw [show b = _ from hb, b2i_0] at e
          exact keep (fun q => e q.2.1) σ hs2
        · rw [hC'.2.1, nI_and, show (0 : Int32) = nI 0 from rfl, z_eq (by have := Nat.and_le_left (n := m) (m := aPaid a); omega) (by decide)] at e2
          exact keep (fun q => e2 q.1) σ hs2
        · rw [hC'.2.1, nI_or]; rfl
        · rw [show r13 = b2i (banB (setN a 1 (aPaid a ||| m)) d s = true) from h12.1, b2i_0, Classical.not_not] at e3
          exact keep (fun q => by rw [e3] at q; exact Bool.noConfusion q.2.2) σ12 (hs2.tr h12.2)
        · rw [show r13 = b2i (banB (setN a 1 (aPaid a ||| m)) d s = true) from h12.1, b2i_0, Bool.not_eq_true] at e3
          rw [show b = _ from hb] at e
          rw [hC'.2.1, nI_and, show (0 : Int32) = nI 0 from rfl, z_eq (by have := Nat.and_le_left (n := m) (m := aPaid a); omega) (by decide)] at e2
          have := ih (m + 1) σ12 (by omega) (hs2.tr h12.2)
          rw [hst, if_pos ⟨e2, h01 _ _ e, e3⟩, ifI_f (by omega)] at this
          rw [nI_1]; exact this
    refine ⟨2 ^ nP a + 1, ?_⟩
    have := key (2 ^ nP a) 0 σ0 (by omega) (rf_sameB _)
    rw [ifI_t (show fewF a d s 0 = 64 from rfl)] at this
    exact this
theorem gcd_odd : ∀ c, c < 65 → ∀ k, k < 8 → c % 2 = 1 → Nat.gcd c (2 ^ k) = 1 := by decide +kernel
theorem sp_X8_odds : Sp_X8_odds := by
  intro deed season which a σ0 hp
  have hC : RC a σ0 := hp
  have hl := rc_le hC.1
  have hp64 : 2 ^ nP a ≤ 64 := (show 2 ^ nP a ≤ 2 ^ 6 from Nat.pow_le_pow_right (by decide) hl.1)
  have lost : ¬ (inR deed 6 ∧ inR season 40 ∧ inR which 2 ∧ ¬ nP a = 0) → post_X8_odds deed season which a σ0 (-9223372036854775808) σ0 := fun z => ⟨by unfold res_odds; rw [if_pos z], hC⟩
  refine ⟨fun b => b = b2i (inR season 40 ∧ inR which 2), ⟨fun h => ?_, fun h => ⟨fun h2 => ?_, fun h2 => ?_⟩⟩, fun b hb => ?_⟩
  · rw [b2i_0] at h; exact (b2i_f (fun q => h q.1)).symm
  · rw [b2i_0] at h2; exact (b2i_f (fun q => h2 q.2)).symm
  · rw [b2i_0, Classical.not_not] at h h2; exact (b2i_t ⟨h, h2⟩).symm
  · rw [show b = b2i (inR season 40 ∧ inR which 2) from hb]
    refine ref_use (Q := fun _ => post_X8_odds deed season which a σ0 (-9223372036854775808) σ0) (K := inR deed 6) (I := inR season 40 ∧ inR which 2) b2i_k b2i_k (fun z => lost (fun q => z q.1)) (fun _ z => lost (fun q => z ⟨q.2.1, q.2.2.1⟩)) (fun _ _ z => lost (fun q => q.2.2.2 ((nP0 hC.1).mp z))) (fun hd hsw h0 => ?_)
    rw [nP0 hC.1] at h0
    obtain ⟨hs, hw⟩ := hsw
    have k1 : ¬ ¬ (inR deed 6 ∧ inR season 40 ∧ inR which 2 ∧ ¬ nP a = 0) := fun z => z ⟨hd, hs, hw, h0⟩
    obtain ⟨d, hd', rfl⟩ := (inR_iff (n := 6) (by decide)).mp hd
    obtain ⟨s, hs', rfl⟩ := (inR_iff (n := 40) (by decide)).mp hs
    have t1 : toN (nI s) = s := z_cl (by omega)
    have t2 : toN (nI d) = d := z_cl (by omega)
    have hres : res_odds (nI d) (nI s) which a = if which = 0 then lN (oddN a d s / Nat.gcd (oddN a d s) (2 ^ nP a)) else lN (2 ^ nP a / Nat.gcd (oddN a d s) (2 ^ nP a)) := by
      unfold res_odds; rw [if_neg k1, t1, t2]
    have halve : ∀ (σ : S_) (Q : Int64 → S_ → Prop) (u v : Nat), (which = 0 → Q (lN u) σ) → (¬ which = 0 → Q (lN v) σ) → ∀ k c, k < 7 → c < 65 → c / Nat.gcd c (2 ^ k) = u → 2 ^ k / Nat.gcd c (2 ^ k) = v → vl_X8_odds_87 which σ Q (k + 1) (nI c) (nI (2 ^ k)) := by
      intro σ Q u v q1 q2 k
      induction k with
      | zero =>
        intro c _ hc hu hv
        rw [Nat.pow_zero, Nat.gcd_one_right, Nat.div_one] at hu
        rw [Nat.pow_zero, Nat.gcd_one_right] at hv
        refine ⟨fun _ => ⟨fun h => ?_, fun h => ?_⟩, fun h => absurd (by decide) h⟩
        · have := q2 h; rw [← hv] at this; rw [nI_l (by decide)]; exact this
        · have := q1 h; rw [← hu] at this; rw [nI_l (by omega)]; exact this
      | succ k ih =>
        intro c hk hc hu hv
        have hpk : 2 ^ (k + 1) ≤ 64 := (show 2 ^ (k + 1) ≤ 2 ^ 6 from Nat.pow_le_pow_right (by decide) (by omega))
        have hp1 : 2 ^ (k + 1) = 2 * 2 ^ k := by rw [Nat.pow_succ, Nat.mul_comm]
        have hpos : 0 < 2 ^ k := Nat.pow_pos (by decide)
        refine ⟨fun h => ?_, fun _ => ⟨by decide, fun hodd => ?_, fun hev => ⟨by decide, by decide, ?_⟩⟩⟩
        · rw [show (1 : Int32) = nI 1 from rfl, z_le (by omega) (by decide)] at h; omega
        · rw [show (2 : Int32) = nI 2 from rfl, pk_rem (by omega) (by decide) (by decide), show (0 : Int32) = nI 0 from rfl, z_eq (by omega) (by decide)] at hodd
          have hg := gcd_odd c hc (k + 1) (by omega) (by omega)
          rw [hg, Nat.div_one] at hu hv
          refine ⟨fun h => ?_, fun h => ?_⟩
          · have := q2 h; rw [← hv] at this; rw [nI_l (by omega)]; exact this
          · have := q1 h; rw [← hu] at this; rw [nI_l (by omega)]; exact this
        · rw [show (2 : Int32) = nI 2 from rfl, pk_rem (by omega) (by decide) (by decide), show (0 : Int32) = nI 0 from rfl, z_eq (by omega) (by decide)] at hev
          rw [show (2 : Int32) = nI 2 from rfl, pk_div (by omega) (by decide) (by decide), pk_div (by omega) (by decide) (by decide)]
          have hc2 : c = 2 * (c / 2) := by omega
          have hpd : 2 ^ (k + 1) / 2 = 2 ^ k := by omega
          rw [hpd]
          have hg : Nat.gcd c (2 ^ (k + 1)) = 2 * Nat.gcd (c / 2) (2 ^ k) := by
            rw [hp1]
            conv => lhs; rw [hc2]
            rw [Nat.gcd_mul_left]
          rw [hg] at hu hv
          refine ih (c / 2) (by omega) (by omega) ?_ ?_
          · rw [← hu, ← Nat.div_div_eq_div_mul]
          · rw [← hv, ← Nat.div_div_eq_div_mul, hpd]
    have cle : ∀ (f : Nat → Bool) n, cntB f n ≤ n := by
      intro f n
      induction n with
      | zero => exact Nat.le_refl 0
      | succ n ih => rw [cntB]; split <;> omega
    have key : ∀ k m (σ : S_), m + k = 2 ^ nP a → sameB σ0 σ → vl_X8_odds_56 (nI d) (nI s) which σ0 (post_X8_odds (nI d) (nI s) which a σ0) (k + 1) (nI (cntB (fun m => !banB (setN a 1 m) d s) m)) (nI m) σ := by
      intro k
      have e1 : (1 : Int32) <<< (rdI σ0 2 &&& 31) = nI (2 ^ nP a) := by rw [rc_P hC.1, sh1 _ (by omega)]
      induction k with
      | zero =>
        intro m σ hm hs2
        have hC' := hs2.rc hC
        have : m = 2 ^ nP a := by omega
        have hcl := cle (fun m => !banB (setN a 1 m) d s) m
        refine ⟨fun _ => ⟨nP a + 1, ?_⟩, fun h => absurd (by rw [e1, z_le (by omega) (by omega)]; omega) h⟩
        rw [e1]
        refine halve σ _ _ _ (fun h => ⟨?_, hC'⟩) (fun h => ⟨?_, hC'⟩) (nP a) _ (by omega) (by omega) rfl rfl
        · rw [hres, if_pos h, this]; rfl
        · rw [hres, if_neg h, this]; rfl
      | succ k ih =>
        intro m σ hm hs2
        have hC' := hs2.rc hC
        refine ⟨fun h => ?_, fun _ => ⟨setN a 1 m, d, s, ⟨rc0_paid hC'.1 (by omega), ⟨rfl, hd'⟩, ⟨rfl, hs'⟩, rfl, hC'.2.2.1⟩, fun r19 σ18 h18 => ⟨fun e => ?_, fun e => ?_⟩⟩⟩
        · rw [e1, z_le (by omega) (by omega)] at h; omega
        · rw [show r19 = b2i (banB (setN a 1 m) d s = true) from h18.1, b2i_0, Classical.not_not] at e
          have := ih (m + 1) σ18 (by omega) (hs2.tr h18.2)
          rw [cntB, e] at this
          rw [nI_1]; exact this
        · rw [show r19 = b2i (banB (setN a 1 m) d s = true) from h18.1, b2i_0, Bool.not_eq_true] at e
          have := ih (m + 1) σ18 (by omega) (hs2.tr h18.2)
          rw [cntB, e] at this
          rw [nI_1, nI_1]; exact this
    exact ⟨2 ^ nP a + 1, key (2 ^ nP a) 0 σ0 (by omega) (rf_sameB _)⟩
