theorem in_c {k : Int32} {L : Int64} {m : Nat} (hL : L.toInt = m) {M : Int32} (hM : M.toInt = m + 1) : fn_X9_in k.toInt64 0 L = 0 ↔ ¬ (0 ≤ k ∧ k < M) := by
  rw [b2i_0, in_n hL hM]
theorem in3 (k : Int32) : fn_X9_in k.toInt64 0 2 = 0 ↔ ¬ inR k 3 := in_c (m := 2) rfl rfl
theorem in2 (k : Int32) : fn_X9_in k.toInt64 0 1 = 0 ↔ ¬ inR k 2 := in_c (m := 1) rfl rfl
theorem wf_law {a : AS} (h : WF a) {v : Nat} (hv : v < 3) (h0 : ¬ nP a = 0) : WF (setN a 2 v) := by
  obtain ⟨w1, w2, w3, w4, w5, w6, w7, w8, w9, w10, w11, w12, w13, w14, w15, w16⟩ := h
  exact ⟨w1, w2, w3, hv, w5, w6, w7, w8, w9, w10, w11, w12, w13, w14, w15, fun z => absurd z h0⟩
theorem wf_paid {a : AS} (h : WF a) {m : Nat} (hm : m < 2 ^ nP a) : WF (setN a 1 m) := by
  obtain ⟨w1, w2, w3, w4, w5, w6, w7, w8, w9, w10, w11, w12, w13, w14, w15, w16⟩ := h
  exact ⟨w1, w2, hm, w4, w5, w6, w7, w8, w9, w10, w11, w12, w13, w14, w15, w16⟩
theorem rr_setL {a : AS} {σ : S_} (h : RR a σ) {v : Nat} (hv : v < 3) (h0 : ¬ nP a = 0) : RR (setN a 2 v) (wrI σ 3 (nI v)) := by
  obtain ⟨w, e0, e1, e2, e3, e6, e7, e8, e9, e10, hp', ht, hm, hn, hr, hs'⟩ := h
  exact ⟨wf_law w hv h0, e0, e1, e2, rfl, e6, e7, e8, e9, e10, hp', ht, hm, hn, hr, hs'⟩
theorem rr_setP {a : AS} {σ : S_} (h : RR a σ) {m : Nat} (hm : m < 2 ^ nP a) : RR (setN a 1 m) (wrI σ 2 (nI m)) := by
  obtain ⟨w, e0, e1, e2, e3, e6, e7, e8, e9, e10, hp', ht, hm', hn, hr, hs'⟩ := h
  exact ⟨wf_paid w hm, e0, e1, rfl, e3, e6, e7, e8, e9, e10, hp', ht, hm', hn, hr, hs'⟩
theorem sp_X9_law : Sp_X9_law := by
  intro v a σ hp
  have hR : RR a σ := hp
  have hl := rr_le hR
  refine ⟨fun h => ⟨fun h2 => ?_, fun h2 => ?_⟩, fun h => ?_⟩
  · rw [in3, Classical.not_not] at h
    rw [rr_P hR, z0 (by omega)] at h2
    have g : ¬ ¬ inR v 3 := fun z => z h
    obtain ⟨v1, hv, rfl⟩ := (inR_iff (n := 3) (by decide)).mp h
    rintro σ1 rfl
    refine ⟨?_, ?_⟩
    · unfold res_law; rw [if_neg g, if_neg h2]; exact rr_law hR
    · unfold nxt_law; rw [if_neg g, if_neg h2]; unfold toN; rw [z_cl (by omega)]; exact rr_setL hR hv h2
  · rw [in3, Classical.not_not] at h
    rw [rr_P hR, z0 (by omega)] at h2
    have g : ¬ ¬ inR v 3 := fun z => z h
    exact ⟨by unfold res_law; rw [if_neg g, if_pos h2], by unfold nxt_law; rw [if_neg g, if_pos h2]; exact hR⟩
  · rw [in3] at h
    exact ⟨by unfold res_law; rw [if_pos h], by unfold nxt_law; rw [if_pos h]; exact hR⟩
theorem clr_x : ∀ m, m < 64 → ∀ p, p < 6 → (nI m &&& (((1 : Int32) <<< (nI p &&& 31)) ^^^ (-1))) = nI (if m.testBit p then m ^^^ 2 ^ p else m) := by decide +kernel
theorem set_x : ∀ m, m < 64 → ∀ p, p < 6 → (nI m ||| ((1 : Int32) <<< (nI p &&& 31))) = nI (if m.testBit p then m else m ^^^ 2 ^ p) := by decide +kernel
theorem xor_lt {m p n : Nat} (hm : m < 2 ^ n) (hp : p < n) : m ^^^ 2 ^ p < 2 ^ n := Nat.xor_lt_two_pow hm (Nat.pow_lt_pow_right (by decide) hp)
theorem setN_id (a : AS) (k v : Nat) (h : a.1 k = v) : setN a k v = a := by
  unfold setN; rw [← h, va_up_id]
theorem sp_X9_pay : Sp_X9_pay := by
  intro p is a σ hp
  have hR : RR a σ := hp.1
  have h01 : is = 0 ∨ is = 1 := hp.2
  have hl := rr_le hR
  refine ⟨fun h => ?_, fun h => ?_⟩
  · rw [noP hR] at h
    have g : ¬ ¬ inR p (nP a) := fun z => z h
    obtain ⟨q, hq, rfl⟩ := (inR_iff (n := nP a) (by omega)).mp h
    have h64 := paid64 hR.1
    have ht : toN (nI q) = q := z_cl (by omega)
    have eis : fn_X9_isIn (rdI σ 2) (nI q) = b2i ((aPaid a).testBit q = true) := by rw [rr_paid hR, isIn_R h64 (by omega)]
    rw [eis, rr_paid hR]
    refine ⟨fun x => x = nI (if b2i ((aPaid a).testBit q = true) = is then aPaid a else aPaid a ^^^ 2 ^ q), ⟨fun h0 => ?_, fun h1 => ?_⟩, fun b3 hb3 => ?_⟩
    · show _ = nI _
      rw [clr_x _ h64 q (by omega), h0]
      cases (aPaid a).testBit q <;> rfl
    · show _ = nI _
      have : is = 1 := h01.resolve_left h1
      rw [set_x _ h64 q (by omega), this]
      cases (aPaid a).testBit q <;> rfl
    · rintro σ5 rfl
      rw [show b3 = _ from hb3]
      by_cases c : b2i ((aPaid a).testBit q = true) = is
      · rw [if_pos c]
        refine ⟨fun z => absurd c z, fun _ => ⟨?_, ?_⟩⟩
        · unfold res_pay; rw [if_neg g, ht, if_pos c]
        · unfold nxt_pay; rw [if_neg g, ht, if_pos c]
          have := rr_setP hR (m := aPaid a) hR.1.2.2.1
          rw [setN_id a 1 (aPaid a) rfl] at this; exact this
      · rw [if_neg c]
        refine ⟨fun _ => ⟨?_, ?_⟩, fun z => absurd z c⟩
        · unfold res_pay; rw [if_neg g, ht, if_neg c]
        · unfold nxt_pay; rw [if_neg g, ht, if_neg c]
          exact rr_setP hR (xor_lt hR.1.2.2.1 hq)
  · rw [noP hR] at h
    exact ⟨by unfold res_pay; rw [if_pos h], by unfold nxt_pay; rw [if_pos h]; exact hR⟩
theorem wf_par {a : AS} (h : WF a) {t v : Nat} (hv : v ≤ 1) : WF (set2 a 6 t v) := by
  obtain ⟨w1, w2, w3, w4, w5, w6, w7, w8, w9, w10, w11, w12, w13, w14, w15, w16⟩ := h
  refine ⟨w1, w2, w3, w4, w5, w6, w7, w8, w9, w10, fun x hx => ?_, w12, w13, w14, w15, w16⟩
  obtain ⟨v1, v2, v3, v4⟩ := w11 x hx
  refine ⟨v1, v2, v3, ?_⟩
  show (if x = t then v else aPar a x) ≤ 1
  split
  · exact hv
  · exact v4
theorem rr_par {a : AS} {σ : S_} (h : RR a σ) {t v : Nat} (hv : v ≤ 1) : RR (set2 a 6 t v) (wr2 σ 10 t (nI v)) := by
  obtain ⟨w, e0, e1, e2, e3, e6, e7, e8, e9, e10, hp', ht, hm', hn, hr, hs'⟩ := h
  refine ⟨wf_par w hv, e0, e1, e2, e3, e6, e7, e8, e9, e10, hp', fun x hx => ?_, hm', hn, hr, hs'⟩
  obtain ⟨v1, v2, v3, v4⟩ := ht x hx
  refine ⟨v1, v2, v3, ?_⟩
  rw [rA_w2s]
  show _ = nI (if x = t then v else aPar a x)
  by_cases e : x = t
  · rw [if_pos e, if_pos e]
  · rw [if_neg e, if_neg e]; exact v4
theorem sp_X9_parody : Sp_X9_parody := by
  intro t is a σ hp
  have hR : RR a σ := hp.1
  have h01 : is = 0 ∨ is = 1 := hp.2
  have hl := rr_le hR
  refine ⟨fun h => ?_, fun h => ?_⟩
  · rw [noT hR] at h
    have g : ¬ ¬ inR t (nT a) := fun z => z h
    obtain ⟨q, hq, rfl⟩ := (inR_iff (n := nT a) (by omega)).mp h
    obtain ⟨d2, hd2, rfl⟩ : ∃ d2 : Nat, d2 ≤ 1 ∧ is = nI d2 := by
      rcases h01 with q | q
      · exact ⟨0, by decide, q⟩
      · exact ⟨1, by decide, q⟩
    have en : vp_nar .boolean (nI d2) = nI d2 := by
      have : d2 = 0 ∨ d2 = 1 := by omega
      rcases this with q | q <;> rw [q] <;> decide
    have ht : toN (nI q) = q := z_cl (by omega)
    refine ⟨z_in (by omega) (by decide), z_in (by omega) (by decide), ?_⟩
    have ht' : Int32.toNatClampNeg (nI q) = q := ht
    rw [ht', (rr_t hR hq).2.2.2, en]
    rintro σ1 rfl
    have eN : nxt_parody (nI q) (nI d2) a = set2 a 6 q d2 := by
      unfold nxt_parody; rw [if_neg g, ht, show toN (nI d2) = d2 from z_cl (by omega)]
    refine ⟨fun c => ⟨?_, ?_⟩, fun c => ⟨?_, ?_⟩⟩
    · unfold res_parody; rw [if_neg g, ht, if_neg c]
    · rw [eN]; exact rr_par hR hd2
    · unfold res_parody; rw [if_neg g, ht, if_pos c]
    · rw [eN]; exact rr_par hR hd2
  · rw [noT hR] at h
    exact ⟨by unfold res_parody; rw [if_pos h], by unfold nxt_parody; rw [if_pos h]; exact hR⟩
theorem sp_X9_remembers : Sp_X9_remembers := by
  intro p s a σ0 hp
  have hR : RR a σ0 := hp
  have hl := rr_le hR
  refine ⟨fun h => ⟨fun h2 => ?_, fun h2 => ?_⟩, fun h => ?_⟩
  · rw [noP hR] at h; rw [isSe, Classical.not_not] at h2
    have g : ¬ ¬ inR p (nP a) := fun z => z h
    have g2 : ¬ ¬ inR s 40 := fun z => z h2
    have eres : res_remembers p s a = nI (maskB (remB a (runR a (toN s + 1)) (toN s + 1) (toN p)) (nT a)) := by unfold res_remembers; rw [if_neg g, if_neg g2]
    obtain ⟨q, hq, rfl⟩ := (inR_iff (n := nP a) (by omega)).mp h
    obtain ⟨S, hS, rfl⟩ := (inR_iff (n := 40) (by decide)).mp h2
    rw [show toN (nI q) = q from z_cl (by omega), show toN (nI S) = S from z_cl (by omega)] at eres
    refine ⟨a, S, ⟨hR, rfl, hS⟩, fun σ3 h3 => ?_⟩
    have hR3 := h3.1.rr hR
    have key : ∀ k i, i + k = nT a → vl_X9_remembers_30 (nI q) (nI S) σ3 (post_X9_remembers (nI q) (nI S) a σ0) (k + 1) (nI (maskB (remB a (runR a (S + 1)) (S + 1) q) i)) (nI i) := by
      intro k
      induction k with
      | zero =>
        intro i hi
        have : i = nT a := by omega
        subst this
        exact ⟨fun _ => ⟨eres.symm, hR3⟩, fun h => absurd (by rw [rr_T hR3, z_le (by omega) (by omega)]; omega) h⟩
      | succ k ih =>
        intro i hi
        have hnx := ih (i + 1) (by omega)
        rw [maskB] at hnx
        refine ⟨fun h => ?_, fun _ => ⟨a, _, S, q, i, ⟨hR3, h3.2.1, rfl, ⟨rfl, hq⟩, ⟨rfl, by omega⟩⟩, fun r hr => ⟨fun x => x = if remB a (runR a (S + 1)) (S + 1) q i = true then nI (2 ^ i) else 0, ⟨fun e => ?_, fun e => ?_⟩, fun b hb => ?_⟩⟩⟩
        · rw [rr_T hR3, z_le (by omega) (by omega)] at h; omega
        · rw [show r = _ from hr, b2i_0] at e
          exact (if_neg e).symm
        · rw [show r = _ from hr, b2i_0, Classical.not_not] at e
          rw [sh1 i (by omega)]
          exact (if_pos e).symm
        · rw [show b = _ from hb, nI_1]
          by_cases c : remB a (runR a (S + 1)) (S + 1) q i = true
          · rw [if_pos c] at hnx ⊢
            rw [nI_or]; exact hnx
          · rw [if_neg c] at hnx ⊢
            rw [show (0 : Int32) = nI 0 from rfl, nI_or, Nat.or_zero]; exact hnx
    exact ⟨nT a + 1, key (nT a) 0 (by omega)⟩
  · rw [noP hR] at h; rw [isSe] at h2
    have g : ¬ ¬ inR p (nP a) := fun z => z h
    exact ⟨by unfold res_remembers; rw [if_neg g, if_pos h2], hR⟩
  · rw [noP hR] at h
    exact ⟨by unfold res_remembers; rw [if_pos h], hR⟩
theorem sp_X9_hearth : Sp_X9_hearth := by
  intro p s a σ0 hp
  have hR : RR a σ0 := hp
  have hl := rr_le hR
  refine ⟨fun h => ⟨fun h2 => ?_, fun h2 => ?_⟩, fun h => ?_⟩
  · rw [noP hR] at h; rw [isSe, Classical.not_not] at h2
    have g : ¬ ¬ inR p (nP a) := fun z => z h
    have g2 : ¬ ¬ inR s 40 := fun z => z h2
    have eres : res_hearth p s a = nI (rAt (runR a (toN s + 1)) (toN p)) := by unfold res_hearth; rw [if_neg g, if_neg g2]
    obtain ⟨q, hq, rfl⟩ := (inR_iff (n := nP a) (by omega)).mp h
    obtain ⟨S, hS, rfl⟩ := (inR_iff (n := 40) (by decide)).mp h2
    rw [show toN (nI q) = q from z_cl (by omega), show toN (nI S) = S from z_cl (by omega)] at eres
    refine ⟨a, S, ⟨hR, rfl, hS⟩, fun σ3 h3 => ⟨z_in (by omega) (by decide), ?_, h3.1.rr hR⟩⟩
    rw [z_cl (by omega), (h3.2.1.2.1 q hq).2]; exact eres.symm
  · rw [noP hR] at h; rw [isSe] at h2
    have g : ¬ ¬ inR p (nP a) := fun z => z h
    exact ⟨by unfold res_hearth; rw [if_neg g, if_pos h2], hR⟩
  · rw [noP hR] at h
    exact ⟨by unfold res_hearth; rw [if_pos h], hR⟩
theorem sp_X9_told : Sp_X9_told := by
  intro p s a σ0 hp
  have hR : RR a σ0 := hp
  have hl := rr_le hR
  refine ⟨fun h => ⟨fun h2 => ⟨fun h3 => ?_, fun h3 => ?_⟩, fun h2 => ?_⟩, fun h => ?_⟩
  · rw [noHe] at h; rw [isSe, Classical.not_not] at h2; rw [rr_P hR, z0 (by omega)] at h3
    have g : ¬ ¬ inR p 3 := fun z => z h
    have g2 : ¬ ¬ inR s 40 := fun z => z h2
    have eres : res_told p s a = ifI (rNw (runR a (toN s + 1)) (toN p) = 0) (-9) (nI (rNw (runR a (toN s + 1)) (toN p) - 1)) := by unfold res_told; rw [if_neg g, if_neg g2, if_neg h3]
    obtain ⟨q, hq, rfl⟩ := (inR_iff (n := 3) (by omega)).mp h
    obtain ⟨S, hS, rfl⟩ := (inR_iff (n := 40) (by decide)).mp h2
    rw [show toN (nI q) = q from z_cl (by omega), show toN (nI S) = S from z_cl (by omega)] at eres
    refine ⟨a, S, ⟨hR, rfl, hS⟩, fun σ3 h3 => ⟨z_in (by omega) (by decide), ?_, h3.1.rr hR⟩⟩
    rw [z_cl (by omega), (h3.2.2 q hq).2]; exact eres.symm
  · rw [noHe] at h; rw [isSe, Classical.not_not] at h2; rw [rr_P hR, z0 (by omega)] at h3
    have g : ¬ ¬ inR p 3 := fun z => z h
    have g2 : ¬ ¬ inR s 40 := fun z => z h2
    exact ⟨by unfold res_told; rw [if_neg g, if_neg g2, if_pos h3], hR⟩
  · rw [noHe] at h; rw [isSe] at h2
    have g : ¬ ¬ inR p 3 := fun z => z h
    exact ⟨by unfold res_told; rw [if_neg g, if_pos h2], hR⟩
  · rw [noHe] at h
    exact ⟨by unfold res_told; rw [if_pos h], hR⟩
theorem sp_X9_forbidden : Sp_X9_forbidden := by
  intro s a σ0 hp
  have hR : RR a σ0 := hp
  have hl := rr_le hR
  refine ⟨fun h2 => ⟨fun h3 => ?_, fun h3 => ?_⟩, fun h2 => ?_⟩
  · rw [isSe, Classical.not_not] at h2; rw [rr_P hR, z0 (by omega)] at h3
    have g2 : ¬ ¬ inR s 40 := fun z => z h2
    have eres : res_forbidden s a = nI (forb a (toN s)) := by unfold res_forbidden; rw [if_neg g2, if_neg h3]
    obtain ⟨S, hS, rfl⟩ := (inR_iff (n := 40) (by decide)).mp h2
    rw [show toN (nI S) = S from z_cl (by omega)] at eres
    refine ⟨a, S, ⟨hR, rfl, hS⟩, fun σ3 h3 => ⟨a, _, S, ⟨h3.1.rr hR, h3.2.1, rfl⟩, ?_⟩⟩
    rintro r7 rfl
    exact ⟨eres.symm, h3.1.rr hR⟩
  · rw [isSe, Classical.not_not] at h2; rw [rr_P hR, z0 (by omega)] at h3
    have g2 : ¬ ¬ inR s 40 := fun z => z h2
    exact ⟨by unfold res_forbidden; rw [if_neg g2, if_pos h3], hR⟩
  · rw [isSe] at h2
    exact ⟨by unfold res_forbidden; rw [if_pos h2], hR⟩
theorem death_le40 (a : AS) (t : Nat) : death a t ≤ 40 := findF_le
theorem sp_X9_dies : Sp_X9_dies := by
  intro t a σ0 hp
  have hR : RR a σ0 := hp
  have hl := rr_le hR
  refine ⟨fun h => ?_, fun h => ?_⟩
  · rw [noT hR] at h
    have g : ¬ ¬ inR t (nT a) := fun z => z h
    have eres : res_dies t a = ifI (death a (toN t) = 40) (-9) (nI (death a (toN t))) := by unfold res_dies; rw [if_neg g]
    obtain ⟨q, hq, rfl⟩ := (inR_iff (n := nT a) (by omega)).mp h
    rw [show toN (nI q) = q from z_cl (by omega)] at eres
    have hd := death_le40 a q
    refine ⟨a, q, ⟨hR, rfl, hq⟩, fun r4 σ3 h4 => ?_⟩
    obtain ⟨h5, h6⟩ := h4
    by_cases c : death a q = 40
    · rw [ifI_t c] at h5 eres
      exact ⟨fun z => absurd h5 z, fun _ => ⟨eres.symm, h6.rr hR⟩⟩
    · rw [ifI_f c] at h5 eres
      refine ⟨fun _ => ⟨h5.trans eres.symm, h6.rr hR⟩, fun z => ?_⟩
      rw [h5, show (99 : Int32) = nI 99 from rfl, z_eq (by omega) (by decide)] at z
      omega
  · rw [noT hR] at h
    exact ⟨by unfold res_dies; rw [if_pos h], hR⟩
theorem refd {a : AS} {σ : S_} (hR : RR a σ) (d s : Int32) : (0 ≤ fn_X9_refusedFor d s σ ∧ inR d 6 ∧ inR s 40 ∧ ¬ nP a = 0) ∨ (¬ 0 ≤ fn_X9_refusedFor d s σ ∧ fn_X9_refusedFor d s σ = (if ¬ inR d 6 then -1 else if ¬ inR s 40 then -2 else -3) ∧ (¬ inR d 6 ∨ ¬ inR s 40 ∨ nP a = 0)) := by
  have hl := rr_le hR
  unfold fn_X9_refusedFor
  rw [rr_P hR]
  have e3 : (nI (nP a) = (0 : Int32)) = (nP a = 0) := z0 (by omega)
  by_cases c1 : inR d 6
  · have k1 : ¬ ¬ (0 ≤ d ∧ d < 6) := fun z => z c1
    rw [if_neg k1, if_neg (show ¬ ¬ inR d 6 from k1)]
    by_cases c2 : inR s 40
    · have k2 : ¬ ¬ (0 ≤ s ∧ s < 40) := fun z => z c2
      rw [if_neg k2, if_neg (show ¬ ¬ inR s 40 from k2)]
      by_cases c3 : nP a = 0
      · rw [if_pos (e3.mpr c3)]; exact Or.inr ⟨by decide, rfl, Or.inr (Or.inr c3)⟩
      · rw [if_neg (fun z => c3 (e3.mp z))]; exact Or.inl ⟨by decide, c1, c2, c3⟩
    · have k2 : ¬ (0 ≤ s ∧ s < 40) := c2
      rw [if_pos k2, if_pos c2]; exact Or.inr ⟨by decide, rfl, Or.inr (Or.inl c2)⟩
  · have k1 : ¬ (0 ≤ d ∧ d < 6) := c1
    rw [if_pos k1, if_pos c1]; exact Or.inr ⟨by decide, rfl, Or.inl c1⟩
theorem sp_X9_free : Sp_X9_free := by
  intro d s a σ0 hp
  have hR : RR a σ0 := hp
  have hl := rr_le hR
  rcases refd hR d s with ⟨k1, c1, c2, c3⟩ | ⟨k1, k2, k3⟩
  · refine ⟨fun _ => ⟨a, hR, fun σ2 h2 => ?_⟩, fun h => absurd k1 h⟩
    have g1 : ¬ ¬ inR d 6 := fun z => z c1
    have g2 : ¬ ¬ inR s 40 := fun z => z c2
    have eres : res_free d s a = ifI (freeS a (toN d) (toN s) = 40) (-9) (nI (freeS a (toN d) (toN s))) := by unfold res_free; rw [if_neg g1, if_neg g2, if_neg c3]
    obtain ⟨d1, hd, rfl⟩ := (inR_iff (n := 6) (by decide)).mp c1
    obtain ⟨s1, hs, rfl⟩ := (inR_iff (n := 40) (by decide)).mp c2
    rw [show toN (nI d1) = d1 from z_cl (by omega), show toN (nI s1) = s1 from z_cl (by omega)] at eres
    have key : ∀ k i (σ : S_), i + k = 40 → sameR σ0 σ → RunR a (runR a i) i σ → (∀ j, j < i → (decide (s1 ≤ j) && !banB a d1 j) = false) → vl_X9_free_20 (nI d1) (nI s1) (post_X9_free (nI d1) (nI s1) a σ0) (k + 1) (nI i) σ := by
      intro k
      induction k with
      | zero =>
        intro i σ hi hs' hR' hn
        have : i = 40 := by omega
        subst this
        refine ⟨fun _ => ⟨?_, hs'.rr hR⟩, fun h => absurd (by rw [lim40, z_le (by omega) (by omega)]; omega) h⟩
        rw [eres, ifI_t]
        exact findF_is (Nat.le_refl 40) hn (fun h => absurd h (Nat.lt_irrefl 40))
      | succ k ih =>
        intro i σ hi hs' hR' hn
        refine ⟨fun h => ?_, fun _ => ⟨a, _, i, ⟨hs'.rr hR, hR', rfl, by omega⟩, fun σ8 h8 => ⟨fun hlt => ?_, fun hge => ⟨a, _, i, ⟨(hs'.tr h8.1).rr hR, h8.2.1, rfl⟩, ?_⟩⟩⟩⟩
        · rw [lim40, z_le (by omega) (by omega)] at h; omega
        · rw [z_lt (by omega) (by omega)] at hlt
          rw [nI_1]
          refine ih (i + 1) σ8 (by omega) (hs'.tr h8.1) h8.2.1 (fun j hj => ?_)
          by_cases e : j = i
          · rw [e, decide_eq_false (by omega)]; rfl
          · exact hn j (by omega)
        · rw [z_lt (by omega) (by omega)] at hge
          rintro r12 rfl
          have hb : fn_X9_isIn (nI (forR a (runR a (i + 1)) (i + 1) (nT a))) (nI d1) = b2i (banB a d1 i = true) := isIn_R (forR_lt hR.1 _ _ _ (Nat.le_refl _)) (by omega)
          rw [show (fn_X9_isIn (nI (forR a (seR a i (runR a i)) (i + 1) (nT a))) (nI d1)) = b2i (banB a d1 i = true) from hb]
          refine ⟨fun e => ?_, fun e => ?_⟩
          · rw [b2i_0, Classical.not_not] at e
            rw [nI_1]
            refine ih (i + 1) σ8 (by omega) (hs'.tr h8.1) h8.2.1 (fun j hj => ?_)
            by_cases e2 : j = i
            · rw [e2, e, Bool.not_true, Bool.and_false]
            · exact hn j (by omega)
          · rw [b2i_0, Bool.not_eq_true] at e
            have hf : freeS a d1 s1 = i := findF_is (by omega) hn (fun _ => by rw [e, decide_eq_true (by omega)]; rfl)
            refine ⟨?_, (hs'.tr h8.1).rr hR⟩
            rw [eres, hf, ifI_f (by omega)]
    exact ⟨40 + 1, key 40 0 σ2 (by omega) h2.1 h2.2 (fun j hj => absurd hj (Nat.not_lt_zero j))⟩
  · refine ⟨fun h => absurd h k1, fun _ => ⟨?_, hR⟩⟩
    rw [k2]; unfold res_free
    by_cases c1 : inR d 6
    · have g1 : ¬ ¬ inR d 6 := fun z => z c1
      rw [if_neg g1, if_neg g1]
      by_cases c2 : inR s 40
      · have g2 : ¬ ¬ inR s 40 := fun z => z c2
        rw [if_neg g2, if_neg g2, if_pos]
        exact (k3.resolve_left g1).resolve_left g2
      · rw [if_pos c2, if_pos c2]
    · rw [if_pos c1, if_pos c1]
