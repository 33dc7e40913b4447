theorem all_is {a : AS} {σ : S_} (h : RR a σ) : fn_X9_all σ = nI (2 ^ nP a - 1) := by
  have hl := rr_le h
  have hp : 0 < 2 ^ nP a := Nat.pow_pos (by decide)
  unfold fn_X9_all
  rw [rr_P h, sh1 _ (by omega), show (1 : Int32) = nI 1 from rfl, pk_sub (by omega)]
theorem all_is' {a b : AS} {σ : S_} (h : RR b σ) (e : nP b = nP a) : fn_X9_all σ = nI (2 ^ nP a - 1) := by rw [← e]; exact all_is h
theorem sp_X9_fewest : Sp_X9_fewest := by
  intro deed season a σ0 hp
  have hR : RR a σ0 := hp
  have hl := rr_le hR
  rcases refd hR deed season with ⟨k1, c1, c2, c3⟩ | ⟨k1, k2, k3⟩
  · refine ⟨fun _ => ?_, fun h => absurd k1 h⟩
    have g1 : ¬ ¬ inR deed 6 := fun z => z c1
    have g2 : ¬ ¬ inR season 40 := fun z => z c2
    obtain ⟨d, hd', rfl⟩ := (inR_iff (n := 6) (by decide)).mp c1
    obtain ⟨s, hs', rfl⟩ := (inR_iff (n := 40) (by decide)).mp c2
    have t1 : toN (nI s) = s := z_cl (by omega)
    have t2 : toN (nI d) = d := z_cl (by omega)
    have hres : res_fewest (nI d) (nI s) a = ifI (fewF a d s (2 ^ nP a) = 64) (-9) (nI (fewF a d s (2 ^ nP a))) := by
      unfold res_fewest; rw [if_neg g1, if_neg g2, if_neg c3, t1, t2]
    have hp64 : 2 ^ nP a ≤ 64 := (show 2 ^ nP a ≤ 2 ^ 6 from Nat.pow_le_pow_right (by decide) hl.1)
    have hp0 : 0 < 2 ^ nP a := Nat.pow_pos (by decide)
    have nneg : ∀ m, m < 100 → ¬ nI m < (0 : Int32) := by decide +kernel
    have key : ∀ k m x (σ : S_), m + k = 2 ^ nP a → RR (setN a 1 x) σ → vl_X9_fewest_26 (nI d) (nI s) σ0 (post_X9_fewest (nI d) (nI s) a σ0) (k + 1) (ifI (fewF a d s m = 64) (-9) (nI (fewF a d s m))) (nI m) σ := by
      intro k
      induction k with
      | zero =>
        intro m x σ hm hx
        have : m = 2 ^ nP a := by omega
        have ea : fn_X9_all σ = nI (2 ^ nP a - 1) := all_is' hx rfl
        refine ⟨fun _ => ?_, fun h => absurd (by rw [ea, z_lt (by omega) (by omega)]; omega) h⟩
        rintro σ4 rfl
        refine ⟨by rw [hres, this], ?_⟩
        rw [rr_paid hR]
        have := rr_setP hx (m := aPaid a) hR.1.2.2.1
        rw [setN_setN, setN_id a 1 (aPaid a) rfl] at this; exact this
      | succ k ih =>
        intro m x σ hm hx
        have ea : fn_X9_all σ = nI (2 ^ nP a - 1) := all_is' hx rfl
        have hfl := few_lt a d s m (by omega)
        have hst : fewF a d s (m + 1) = if m &&& aPaid a = 0 ∧ (fewF a d s m = 64 ∨ popc m < popc (fewF a d s m)) ∧ banB (setN a 1 (aPaid a ||| m)) d s = false then m else fewF a d s m := by rw [fewF]
        have hm2 : aPaid a ||| m < 2 ^ nP a := Nat.or_lt_two_pow hR.1.2.2.1 (by omega)
        have keep : ¬ (m &&& aPaid a = 0 ∧ (fewF a d s m = 64 ∨ popc m < popc (fewF a d s m)) ∧ banB (setN a 1 (aPaid a ||| m)) d s = false) → ∀ y σ', RR (setN a 1 y) σ' → vl_X9_fewest_26 (nI d) (nI s) σ0 (post_X9_fewest (nI d) (nI s) a σ0) (k + 1) (ifI (fewF a d s m = 64) (-9) (nI (fewF a d s m))) (nI m + 1) σ' := by
          intro hn y σ' hs'
          have := ih (m + 1) y σ' (by omega) hs'
          rw [hst, if_neg hn] at this
          rw [nI_1]; exact this
        have hx2 := rr_setP hx (m := aPaid a ||| m) hm2
        rw [setN_setN] at hx2
        have eand : (nI m &&& nI (aPaid a) = (0 : Int32)) = (m &&& aPaid a = 0) := by
          rw [nI_and, show (0 : Int32) = nI 0 from rfl, z_eq (by have := Nat.and_le_left (n := m) (m := aPaid a); omega) (by decide)]
        have go : m &&& aPaid a = 0 → (fewF a d s m = 64 ∨ popc m < popc (fewF a d s m)) → ∀ σ6 : S_, σ6 = wrI σ 2 (nI (aPaid a) ||| nI m) → (∃ g8 : AS, ∃ g9 : Nat, ∃ g10 : Nat, (pre_X9_isForbidden (nI d) (nI s) g8 g9 g10 σ6) ∧ (∀ (r12 : Int32) (σ11 : S_), post_X9_isForbidden (nI d) (nI s) g8 g9 g10 σ6 r12 σ11 → (∃ P13 : Int32 → Prop, (((r12 = 0) → P13 (nI m)) ∧ ((¬ r12 = 0) → P13 (ifI (fewF a d s m = 64) (-9) (nI (fewF a d s m))))) ∧ (∀ b15 : Int32, P13 b15 → (vl_X9_fewest_26 (nI d) (nI s) σ0 (post_X9_fewest (nI d) (nI s) a σ0) (k + 1) b15 (nI m + 1) σ11))))) := by
          intro q1 q2
          rintro σ6 rfl
          rw [nI_or]
          refine ⟨setN a 1 (aPaid a ||| m), d, s, ⟨hx2, ⟨rfl, hd'⟩, ⟨rfl, hs'⟩⟩, fun r12 σ11 h12 => ⟨fun y => y = ifI (fewF a d s (m + 1) = 64) (-9) (nI (fewF a d s (m + 1))), ⟨fun e3 => ?_, fun e3 => ?_⟩, fun b hb => ?_⟩⟩
          · rw [show r12 = b2i (banB (setN a 1 (aPaid a ||| m)) d s = true) from h12.1, b2i_0, Bool.not_eq_true] at e3
            show nI m = _
            rw [hst, if_pos ⟨q1, q2, e3⟩, ifI_f (by omega)]
          · rw [show r12 = b2i (banB (setN a 1 (aPaid a ||| m)) d s = true) from h12.1, b2i_0, Classical.not_not] at e3
            show _ = ifI (fewF a d s (m + 1) = 64) (-9) (nI (fewF a d s (m + 1)))
            rw [hst, if_neg (fun q => by rw [e3] at q; exact Bool.noConfusion q.2.2)]
          · rw [show b = _ from hb, nI_1]
            exact ih (m + 1) _ σ11 (by omega) (h12.2.rr hx2)
        refine ⟨fun h => ?_, fun _ => ?_⟩
        · rw [ea, z_lt (by omega) (by omega)] at h; omega
        · rw [rr_paid hR, eand]
          refine ⟨fun h => keep (fun q => h q.1) x σ hx, fun h => ⟨fun h9 => go h (Or.inl ?_), fun h9 => ⟨fun h10 => ?_, fun h10 => go h (Or.inr ?_)⟩⟩⟩
          · by_cases c : fewF a d s m = 64
            · exact c
            · rw [ifI_f c] at h9; exact absurd h9 (nneg _ (by omega))
          · have c : ¬ fewF a d s m = 64 := fun c => h9 (by rw [ifI_t c]; decide)
            have := popc_le m
            have := popc_le (fewF a d s m)
            rw [ifI_f c, bits_s _ (by omega), bits_s _ (by omega), z_le (by omega) (by omega)] at h10
            exact keep (fun q => by have := q.2.1; omega) x σ hx
          · have c : ¬ fewF a d s m = 64 := fun c => h9 (by rw [ifI_t c]; decide)
            have := popc_le m
            have := popc_le (fewF a d s m)
            rw [ifI_f c, bits_s _ (by omega), bits_s _ (by omega), z_le (by omega) (by omega)] at h10
            omega
    have := key (2 ^ nP a) 0 (aPaid a) σ0 (by omega) (by rw [setN_id a 1 (aPaid a) rfl]; exact hR)
    exact ⟨2 ^ nP a + 1, this⟩
  · refine ⟨fun h => absurd h k1, fun _ => ⟨?_, hR⟩⟩
    rw [k2]; unfold res_fewest
    by_cases c1 : inR deed 6
    · have g1 : ¬ ¬ inR deed 6 := fun z => z c1
      rw [if_neg g1, if_neg g1]
      by_cases c2 : inR season 40
      · have g2 : ¬ ¬ inR season 40 := fun z => z c2
        rw [if_neg g2, if_neg g2, if_pos]
        exact (k3.resolve_left g1).resolve_left g2
      · rw [if_pos c2, if_pos c2]
    · rw [if_pos c1, if_pos c1]
theorem cnt_le (f : Nat → Bool) : ∀ n, cntB f n ≤ n := by
  intro n
  induction n with
  | zero => exact Nat.le_refl 0
  | succ n ih => rw [cntB]; split <;> omega
theorem sp_X9_odds : Sp_X9_odds := by
  intro deed season which a σ0 hp
  have hR : RR a σ0 := hp
  have hl := rr_le hR
  have lost : ¬ (inR deed 6 ∧ inR season 40 ∧ inR which 2 ∧ ¬ nP a = 0) → post_X9_odds deed season which a σ0 (-9223372036854775808) σ0 := fun z => ⟨by unfold res_odds; rw [if_pos z], hR⟩
  refine ⟨fun h => ?_, fun h => ⟨fun h2 => ?_, fun h2 => ⟨fun h3 => ?_, fun h3 => ⟨fun h4 => ?_, fun h4 => ?_⟩⟩⟩⟩
  · rw [noD] at h; exact lost (fun z => h z.1)
  · rw [isSe] at h2; exact lost (fun z => h2 z.2.1)
  · rw [in2] at h3; exact lost (fun z => h3 z.2.2.1)
  · rw [noD] at h; rw [isSe, Classical.not_not] at h2; rw [in2, Classical.not_not] at h3; rw [rr_P hR, z0 (by omega)] at h4
    have k1 : ¬ ¬ (inR deed 6 ∧ inR season 40 ∧ inR which 2 ∧ ¬ nP a = 0) := fun z => z ⟨h, h2, h3, h4⟩
    obtain ⟨d, hd', rfl⟩ := (inR_iff (n := 6) (by decide)).mp h
    obtain ⟨s, hs', rfl⟩ := (inR_iff (n := 40) (by decide)).mp h2
    have t1 : toN (nI s) = s := z_cl (by omega)
    have t2 : toN (nI d) = d := z_cl (by omega)
    have hres : res_odds (nI d) (nI s) which a = if which = 0 then lN (oddN a d s / Nat.gcd (oddN a d s) (2 ^ nP a)) else lN (2 ^ nP a / Nat.gcd (oddN a d s) (2 ^ nP a)) := by
      unfold res_odds; rw [if_neg k1, t1, t2]
    have hp64 : 2 ^ nP a ≤ 64 := (show 2 ^ nP a ≤ 2 ^ 6 from Nat.pow_le_pow_right (by decide) hl.1)
    have hp0 : 0 < 2 ^ nP a := Nat.pow_pos (by decide)
    have key : ∀ k m x (σ : S_), m + k = 2 ^ nP a → RR (setN a 1 x) σ → vl_X9_odds_47 (nI d) (nI s) which σ0 (post_X9_odds (nI d) (nI s) which a σ0) (k + 1) (lN (cntB (fun m => !banB (setN a 1 m) d s) m)) (nI m) σ := by
      intro k
      induction k with
      | zero =>
        intro m x σ hm hx
        have hme : m = 2 ^ nP a := by omega
        have ea : fn_X9_all σ = nI (2 ^ nP a - 1) := all_is' hx rfl
        have hcl := cnt_le (fun m => !banB (setN a 1 m) d s) m
        refine ⟨fun _ => ?_, fun h => absurd (by rw [ea, z_lt (by omega) (by omega)]; omega) h⟩
        rintro σ4 rfl
        have hx2 := rr_setP hx (m := aPaid a) hR.1.2.2.1
        rw [setN_setN, setN_id a 1 (aPaid a) rfl] at hx2
        rw [rr_paid hR]
        have ea2 : fn_X9_all (wrI σ 2 (nI (aPaid a))) = nI (2 ^ nP a - 1) := all_is' hx2 rfl
        rw [ea2, nI_l (by omega), lN_1, Nat.sub_add_cancel hp0]
        refine ⟨_, _, ⟨rfl, rfl, hp0, hp64, by omega⟩, fun r8 h8 => ⟨?_, hx2⟩⟩
        rw [show r8 = _ from h8, hres, hme]; rfl
      | succ k ih =>
        intro m x σ hm hx
        have ea : fn_X9_all σ = nI (2 ^ nP a - 1) := all_is' hx rfl
        refine ⟨fun h => ?_, fun _ => ?_⟩
        · rw [ea, z_lt (by omega) (by omega)] at h; omega
        · rintro σ9 rfl
          have hx2 := rr_setP hx (m := m) (by show m < 2 ^ nP a; omega)
          rw [setN_setN] at hx2
          refine ⟨setN a 1 m, d, s, ⟨hx2, ⟨rfl, hd'⟩, ⟨rfl, hs'⟩⟩, fun r15 σ14 h15 => ⟨fun y => y = lN (if (!banB (setN a 1 m) d s) = true then 1 else 0), ⟨fun e => ?_, fun e => ?_⟩, fun b hb => ?_⟩⟩
          · rw [h15.1, b2i_0, Bool.not_eq_true] at e
            show (1 : Int64) = _
            rw [e]; rfl
          · rw [h15.1, b2i_0, Classical.not_not] at e
            show (0 : Int64) = _
            rw [e]; rfl
          · rw [show b = _ from hb, lN_add, nI_1]
            have := ih (m + 1) m σ14 (by omega) (h15.2.rr hx2)
            rw [cntB] at this
            exact this
    have := key (2 ^ nP a) 0 (aPaid a) σ0 (by omega) (by rw [setN_id a 1 (aPaid a) rfl]; exact hR)
    exact ⟨2 ^ nP a + 1, this⟩
  · rw [rr_P hR, z0 (by omega)] at h4; exact lost (fun z => z.2.2.2 h4)
theorem rr_drop {a : AS} {σ : S_} {p s : Nat} {v : Int32} (hw : WF a) (h : RR (addT a 0 p s) (wr2 σ 8 (nT a) v)) : RR a (wrI σ 6 (nI (nT a))) := by
  obtain ⟨-, e0, e1, e2, e3, e6, e7, e8, e9, e10, hp', ht, hm', hn, hr, hs'⟩ := h
  refine ⟨hw, e0, e1, e2, e3, rfl, e7, e8, e9, e10, hp', fun t htt => ?_, hm', hn, hr, hs'⟩
  obtain ⟨v1, v2, v3, v4⟩ := ht t (by show t < nT a + 1; omega)
  have ad : aDeed (addT a 0 p s) t = (if t = nT a then 0 else aDeed a t) := rfl
  have at' : aTo (addT a 0 p s) t = (if t = nT a then p else aTo a t) := rfl
  have as' : aTin (addT a 0 p s) t = (if t = nT a then s else aTin a t) := rfl
  have ap : aPar (addT a 0 p s) t = (if t = nT a then 0 else aPar a t) := rfl
  rw [ad, if_neg (by omega)] at v1
  rw [at', if_neg (by omega), rA_w2s, if_neg (by omega)] at v2
  rw [as', if_neg (by omega)] at v3
  rw [ap, if_neg (by omega)] at v4
  exact ⟨v1, v2, v3, v4⟩
theorem death_pos (a : AS) (t : Nat) : 0 < death a t := by
  have h := (findF_spec (fun S => decide (aTin a t < S) && !alB a (runR a (S + 1)) (S + 1) t) 40 0).2.2.2
  rcases Nat.eq_zero_or_pos (death a t) with h0 | h0
  · have e : findF (fun S => decide (aTin a t < S) && !alB a (runR a (S + 1)) (S + 1) t) 40 0 = 0 := h0
    rw [e] at h
    have := h (by decide)
    rw [decide_eq_false (Nat.not_lt_zero _)] at this
    exact Bool.noConfusion this
  · exact h0
def en99 (d : Nat) : Int32 := ifI (d = 40) 99 (nI d)
theorem en99_le : ∀ x, x < 41 → ∀ y, y < 41 → (en99 x ≤ en99 y ↔ x ≤ y) := by decide +kernel
theorem en99_m1 : ∀ x, x < 41 → ¬ en99 x ≤ (-1 : Int32) := by decide +kernel
theorem sp_X9_longest : Sp_X9_longest := by
  intro season what a σ0 hp
  have hR : RR a σ0 := hp
  have hl := rr_le hR
  have no : ¬ (inR season 40 ∧ inR what 2) → post_X9_longest season what a σ0 (-2) σ0 := fun z => ⟨by unfold res_longest; rw [if_pos z], hR⟩
  refine ⟨fun h => ?_, fun h => ⟨fun h2 => ⟨fun h3 => ⟨fun h4 => ?_, fun h4 => ?_⟩, fun h3 => ?_⟩, fun h2 => ?_⟩⟩
  · rw [isSe] at h; exact no (fun q => h q.1)
  · rw [isSe, Classical.not_not] at h; rw [in2, Classical.not_not] at h2; rw [rr_P hR, z0 (by omega)] at h3
    rw [rr_T hR, lim6, z_eq (by omega) (by decide)] at h4
    have k1 : ¬ ¬ (inR season 40 ∧ inR what 2) := fun z => z ⟨h, h2⟩
    obtain ⟨s, hs', rfl⟩ := (inR_iff (n := 40) (by decide)).mp h
    have t1 : toN (nI s) = s := z_cl (by omega)
    have hres : res_longest (nI s) what a = if what = 0 then nI (lgF a s (nP a)).1 else ifI ((lgF a s (nP a)).2 = 40) (-9) (nI (lgF a s (nP a)).2) := by
      unfold res_longest; rw [if_neg k1, if_neg h3, if_neg h4, t1]
    have key : ∀ k i (σ : S_) (x9 x10 : Int32), i + k = nP a → rdI σ 6 = nI (nT a + 1) → (∀ x, x < nP a → RR (addT a 0 x s) (wr2 σ 8 (nT a) (nI x))) → ((i = 0 ∧ x9 = -9 ∧ x10 = -1) ∨ (0 < i ∧ x9 = nI (lgF a s i).1 ∧ x10 = en99 (lgF a s i).2)) → vl_X9_longest_97 what (post_X9_longest (nI s) what a σ0) (k + 1) x9 x10 (nI i) σ := by
      intro k
      induction k with
      | zero =>
        intro i σ x9 x10 hi h6 hx hxx
        have : i = nP a := by omega
        subst this
        have e1 : rdI σ 1 = nI (nP a) := by have q := rr_P' (a := a) (hx 0 (by omega)) rfl; rw [rI_w2] at q; exact q
        obtain ⟨-, q9, q10⟩ := hxx.resolve_left (fun z => h3 z.1)
        subst q9 q10
        refine ⟨fun _ => ?_, fun h => absurd (by rw [e1, z_le (by omega) (by omega)]; omega) h⟩
        rintro σ13 rfl
        rw [h6, show nI (nT a + 1) - 1 = nI (nT a) from by show nI (nT a + 1) - nI 1 = _; rw [pk_sub (by omega), Nat.add_sub_cancel]]
        have hC7 := rr_drop hR.1 (hx 0 (by omega))
        have hb := (lgF_2 a s (nP a)).1
        have n99 : ∀ m, m < 40 → ¬ nI m = (99 : Int32) := by decide +kernel
        refine ⟨fun hw => ⟨fun h40 => ⟨?_, hC7⟩, fun h40 => ⟨?_, hC7⟩⟩, fun hw => ⟨?_, hC7⟩⟩
        · rw [hres, if_neg hw]
          by_cases c : (lgF a s (nP a)).2 = 40
          · exact absurd (ifI_t c) h40
          · unfold en99; rw [ifI_f c, ifI_f c]
        · rw [hres, if_neg hw]
          by_cases c : (lgF a s (nP a)).2 = 40
          · rw [ifI_t c]
          · unfold en99 at h40; rw [ifI_f c] at h40; exact absurd h40 (n99 _ (by omega))
        · rw [hres, if_pos hw]
      | succ k ih =>
        intro i σ x9 x10 hi h6 hx hxx
        have e1 : rdI σ 1 = nI (nP a) := by have q := rr_P' (a := a) (hx 0 (by omega)) rfl; rw [rI_w2] at q; exact q
        have es : rdI σ 6 - 1 = nI (nT a) := by rw [h6]; show nI (nT a + 1) - nI 1 = _; rw [pk_sub (by omega), Nat.add_sub_cancel]
        have hcl : Int32.toNatClampNeg (nI (nT a)) = nT a := z_cl (by omega)
        refine ⟨fun h => ?_, fun _ => ⟨by rw [es]; exact z_in (by omega) (by decide), ?_⟩⟩
        · rw [e1, z_le (by omega) (by omega)] at h; omega
        · rintro σ17 rfl
          rw [rI_w2, es, hcl]
          have hx2 := hx i (by omega)
          refine ⟨addT a 0 i s, nT a, ⟨hx2, rfl, by show nT a < nT a + 1; omega⟩, fun r22 σ21 h22 => ?_⟩
          have hd := death_le (addT a 0 i s) (nT a)
          have hdp := death_pos (addT a 0 i s) (nT a)
          have hb := lgF_2 a s i
          have hst : lgF a s (i + 1) = if (lgF a s i).2 < death (addT a 0 i s) (nT a) then (i, death (addT a 0 i s) (nT a)) else lgF a s i := by rw [lgF]
          have er : r22 = en99 (death (addT a 0 i s) (nT a)) := h22.1
          have hx3 : ∀ x, x < nP a → RR (addT a 0 x s) (wr2 σ21 8 (nT a) (nI x)) := by
            intro x hxp
            have := rr_to (h22.2.rr hx2) (t := nT a) (p := x) hxp
            rw [addT_to] at this; exact this
          have h63 : rdI σ21 6 = nI (nT a + 1) := (h22.2.1 6).trans h6
          have hle : (r22 ≤ x10) ↔ ¬ ((lgF a s i).2 < death (addT a 0 i s) (nT a)) := by
            rw [er]
            rcases hxx with ⟨q1, q2, q3⟩ | ⟨q1, q2, q3⟩
            · subst q1
              rw [q3]
              exact ⟨fun z => absurd z (en99_m1 _ (by omega)), fun z => absurd hdp z⟩
            · rw [q3, en99_le _ (by omega) _ (by omega)]; omega
          refine ⟨fun y => y = nI (lgF a s (i + 1)).1, ⟨fun e => ?_, fun e => ?_⟩, fun b hb1 => ⟨fun y => y = en99 (lgF a s (i + 1)).2, ⟨fun e => ?_, fun e => ?_⟩, fun b2 hb2 => ?_⟩⟩
          · have e2 := hle.mp e
            show x9 = _
            rw [hst, if_neg e2]
            rcases hxx with ⟨q1, q2, q3⟩ | ⟨q1, q2, q3⟩
            · subst q1; exact absurd hdp e2
            · exact q2
          · have e2 : (lgF a s i).2 < death (addT a 0 i s) (nT a) := Classical.not_not.mp (fun z => e (hle.mpr z))
            show nI i = _
            rw [hst, if_pos e2]
          · have e2 := hle.mp e
            show x10 = _
            rw [hst, if_neg e2]
            rcases hxx with ⟨q1, q2, q3⟩ | ⟨q1, q2, q3⟩
            · subst q1; exact absurd hdp e2
            · exact q3
          · have e2 : (lgF a s i).2 < death (addT a 0 i s) (nT a) := Classical.not_not.mp (fun z => e (hle.mpr z))
            show r22 = _
            rw [hst, if_pos e2]; exact er
          · rw [nI_1]
            exact ih (i + 1) σ21 b b2 (by omega) h63 hx3 (Or.inr ⟨by omega, hb1, hb2⟩)
    have t0 : rdI σ0 6 + 1 = nI (nT a + 1) := by rw [rr_T hR, nI_1]
    have es : nI (nT a + 1) - 1 = nI (nT a) := by show nI (nT a + 1) - nI 1 = _; rw [pk_sub (by omega), Nat.add_sub_cancel]
    have hcl : Int32.toNatClampNeg (nI (nT a)) = nT a := z_cl (by omega)
    have hin : vp_in (nI (nT a)) 6 := z_in (by omega) (by decide)
    rintro σ1 rfl
    rw [rI_same, t0, es, hcl]
    refine ⟨hin, ?_⟩
    rintro σ3 rfl
    rw [rI_w2, rI_same, es, hcl]
    refine ⟨hin, ?_⟩
    rintro σ5 rfl
    rw [rI_w2, rI_w2, rI_same, es, hcl, nar01.1]
    refine ⟨hin, ?_⟩
    rintro σ7 rfl
    refine ⟨nP a + 1, key (nP a) 0 _ (-9) (-1) (by omega) rfl (fun x hxp => ?_) (Or.inl ⟨rfl, rfl, rfl⟩)⟩
    have h5 := rr_addT hR (d := 0) (p := x) (s := s) (by decide) hxp hs' (by omega)
    obtain ⟨w, e0, e1, e2, e3, e6, e7, e8, e9, e10, hp', ht, hm', hn, hr, hs2⟩ := h5
    refine ⟨w, e0, e1, e2, e3, e6, e7, e8, e9, e10, hp', fun t htt => ?_, hm', hn, hr, hs2⟩
    obtain ⟨v1, v2, v3, v4⟩ := ht t htt
    refine ⟨Eq.trans ?_ v1, Eq.trans ?_ v2, Eq.trans ?_ v3, Eq.trans ?_ v4⟩
    · rw [rA_w2n _ _ _ _ _ (by decide), rA_w2n _ _ _ _ _ (by decide), rA_w2n _ _ _ _ _ (by decide), rA_w2s, rA_wI, rA_wI, rA_w2n _ _ _ _ _ (by decide), rA_w2n _ _ _ _ _ (by decide), rA_w2n _ _ _ _ _ (by decide), rA_w2s]; rfl
    · rw [rA_w2s, rA_w2n _ _ _ _ _ (by decide), rA_w2n _ _ _ _ _ (by decide), rA_w2n _ _ _ _ _ (by decide), rA_wI, rA_wI, rA_w2n _ _ _ _ _ (by decide), rA_w2n _ _ _ _ _ (by decide), rA_w2s, rA_w2n _ _ _ _ _ (by decide)]
    · rw [rA_w2n _ _ _ _ _ (by decide), rA_w2n _ _ _ _ _ (by decide), rA_w2s, rA_w2n _ _ _ _ _ (by decide), rA_wI, rA_wI, rA_w2n _ _ _ _ _ (by decide), rA_w2s, rA_w2n _ _ _ _ _ (by decide), rA_w2n _ _ _ _ _ (by decide)]
    · rw [rA_w2n _ _ _ _ _ (by decide), rA_w2s, rA_w2n _ _ _ _ _ (by decide), rA_w2n _ _ _ _ _ (by decide), rA_wI, rA_wI, rA_w2s, rA_w2n _ _ _ _ _ (by decide), rA_w2n _ _ _ _ _ (by decide), rA_w2n _ _ _ _ _ (by decide)]
  · rw [isSe, Classical.not_not] at h; rw [in2, Classical.not_not] at h2; rw [rr_P hR, z0 (by omega)] at h3
    rw [rr_T hR, lim6, z_eq (by omega) (by decide)] at h4
    have k1 : ¬ ¬ (inR season 40 ∧ inR what 2) := fun z => z ⟨h, h2⟩
    exact ⟨by unfold res_longest; rw [if_neg k1, if_neg h3, if_pos h4], hR⟩
  · rw [isSe, Classical.not_not] at h; rw [in2, Classical.not_not] at h2; rw [rr_P hR, z0 (by omega)] at h3
    have k1 : ¬ ¬ (inR season 40 ∧ inR what 2) := fun z => z ⟨h, h2⟩
    exact ⟨by unfold res_longest; rw [if_neg k1, if_pos h3], hR⟩
  · rw [in2] at h2; exact no (fun q => h2 q.2)
