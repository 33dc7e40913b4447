theorem in_back {k : Int32} {C : Nat} (hC : C ≤ 8) {y : Int32} (e : y = nI C) : (fn_X9_in k.toInt64 0 y.toInt64 = 0 ∧ ¬ (0 ≤ k ∧ k ≤ nI C)) ∨ (¬ fn_X9_in k.toInt64 0 y.toInt64 = 0 ∧ ∃ q : Nat, q ≤ C ∧ k = nI q ∧ (0 ≤ k ∧ k ≤ nI C) ∧ toN k = q ∧ y - k = nI (C - q)) := by
  have e2 := in_le k y
  subst e
  rw [b2i_0, e2]
  by_cases c : 0 ≤ k ∧ k ≤ nI C
  · obtain ⟨q, hq, rfl⟩ := nI_of (x := k) (Int32.not_lt.mpr c.1)
    have h2 : q ≤ C := by have := c.2; rw [z_le hq (by omega)] at this; exact this
    exact Or.inr ⟨fun z => z c, q, h2, rfl, c, z_cl hq, pk_sub h2⟩
  · exact Or.inl ⟨c, c⟩
theorem wf_M {a : AS} (h : WF a) {q : Nat} (hq : q ≤ nM a) : WF (setN a 4 q) := by
  obtain ⟨w1, w2, w3, w4, w5, w6, w7, w8, w9, w10, w11, w12, w13, w14, w15, w16⟩ := h
  exact ⟨w1, w2, w3, w4, w5, Nat.le_trans hq w6, w7, w8, w9, w10, w11, fun k hk => w12 k (Nat.lt_of_lt_of_le hk hq), w13, w14, w15, fun z => ⟨(w16 z).1, Nat.le_zero.mp ((w16 z).2.1 ▸ hq), (w16 z).2.2⟩⟩
theorem sp_X9_unmove : Sp_X9_unmove := by
  intro k a σ hp
  have hR : RR a σ := hp
  have hl := rr_le hR
  rcases in_back (k := k) (by omega : nM a ≤ 8) (rr_M hR) with ⟨h1, h2⟩ | ⟨h1, q, hq, rfl, h2, h3, h4⟩
  · refine ⟨fun h => absurd h1 h, fun _ => ⟨?_, ?_⟩⟩
    · unfold res_unmove; rw [if_pos h2]
    · unfold nxt_unmove; rw [if_pos h2]; exact hR
  · refine ⟨fun _ => ?_, fun h => absurd h h1⟩
    rintro σ1 rfl
    have g : ¬ ¬ (0 ≤ nI q ∧ nI q ≤ nI (nM a)) := fun z => z h2
    rw [rI_same, h4]
    refine ⟨?_, ?_⟩
    · unfold res_unmove; rw [if_neg g, h3]
    · unfold nxt_unmove; rw [if_neg g, h3]
      obtain ⟨w, e0, e1, e2, e3, e6, e7, e8, e9, e10, hp', ht, hm, hn, hr, hs'⟩ := hR
      exact ⟨wf_M w (Nat.sub_le _ _), e0, e1, e2, e3, e6, rfl, e8, e9, e10, hp', ht, fun k hk => hm k (Nat.lt_of_lt_of_le hk (Nat.sub_le _ _)), hn, hr, hs'⟩
theorem wf_R {a : AS} (h : WF a) {q : Nat} (hq : q ≤ nR a) : WF (setN a 6 q) := by
  obtain ⟨w1, w2, w3, w4, w5, w6, w7, w8, w9, w10, w11, w12, w13, w14, w15, w16⟩ := h
  exact ⟨w1, w2, w3, w4, w5, w6, w7, Nat.le_trans hq w8, w9, w10, w11, w12, w13, fun k hk => w14 k (Nat.lt_of_lt_of_le hk hq), w15, fun z => ⟨(w16 z).1, (w16 z).2.1, (w16 z).2.2.1, Nat.le_zero.mp ((w16 z).2.2.2.1 ▸ hq), (w16 z).2.2.2.2⟩⟩
theorem sp_X9_back : Sp_X9_back := by
  intro k a σ hp
  have hR : RR a σ := hp
  have hl := rr_le hR
  rcases in_back (k := k) (by omega : nR a ≤ 8) (rr_R hR) with ⟨h1, h2⟩ | ⟨h1, q, hq, rfl, h2, h3, h4⟩
  · refine ⟨fun h => absurd h1 h, fun _ => ⟨?_, ?_⟩⟩
    · unfold res_back; rw [if_pos h2]
    · unfold nxt_back; rw [if_pos h2]; exact hR
  · refine ⟨fun _ => ?_, fun h => absurd h h1⟩
    rintro σ1 rfl
    have g : ¬ ¬ (0 ≤ nI q ∧ nI q ≤ nI (nR a)) := fun z => z h2
    rw [rI_same, h4]
    refine ⟨?_, ?_⟩
    · unfold res_back; rw [if_neg g, h3]
    · unfold nxt_back; rw [if_neg g, h3]
      obtain ⟨w, e0, e1, e2, e3, e6, e7, e8, e9, e10, hp', ht, hm, hn, hr, hs'⟩ := hR
      exact ⟨wf_R w (Nat.sub_le _ _), e0, e1, e2, e3, e6, e7, e8, rfl, e10, hp', ht, hm, hn, fun k hk => hr k (Nat.lt_of_lt_of_le hk (Nat.sub_le _ _)), hs'⟩
theorem wf_undo {a : AS} (h : WF a) {left : Nat} (hle : left ≤ nT a) : WF (undoA a left) := by
  obtain ⟨w1, w2, w3, w4, w5, w6, w7, w8, w9, w10, w11, w12, w13, w14, w15, w16⟩ := h
  have hlen : (kepR a left).length ≤ nR a := keptL_len (fun x => decide (aRt a x < left)) (nR a)
  have hmem := keptL_mem (fun x => decide (aRt a x < left)) (nR a)
  refine ⟨w1, w2, w3, w4, Nat.le_trans hle w5, w6, w7, Nat.le_trans hlen w8, w9, w10, fun t htt => w11 t (Nat.lt_of_lt_of_le htt hle), w12, w13, fun k hk => ?_, w15, fun z => ⟨Nat.le_zero.mp ((w16 z).1 ▸ hle), (w16 z).2.1, (w16 z).2.2.1, Nat.le_zero.mp ((w16 z).2.2.2.1 ▸ hlen), (w16 z).2.2.2.2⟩⟩
  obtain ⟨m1, m2⟩ := hmem k hk
  have q := w14 _ m1
  exact ⟨q.1, of_decide_eq_true m2, q.2.2.1, q.2.2.2⟩
theorem sp_X9_undo : Sp_X9_undo := by
  intro k a σ0 hp
  have hR : RR a σ0 := hp
  have hl := rr_le hR
  rcases in_back (k := k) (by omega : nT a ≤ 8) (rr_T hR) with ⟨h1, h2⟩ | ⟨h1, q, hq, rfl, h2, h3, h4⟩
  · refine ⟨fun h => absurd h1 h, fun _ => ⟨?_, ?_⟩⟩
    · unfold res_undo; rw [if_pos h2]
    · unfold nxt_undo; rw [if_pos h2]; exact hR
  · refine ⟨fun _ => ?_, fun h => absurd h h1⟩
    rintro σ1 rfl
    have g : ¬ ¬ (0 ≤ nI q ∧ nI q ≤ nI (nT a)) := fun z => z h2
    rw [h4]
    have eres : res_undo (nI q) a = nI (nT a - q) := by unfold res_undo; rw [if_neg g, h3]
    have enxt : nxt_undo (nI q) a = undoA a (nT a - q) := by unfold nxt_undo; rw [if_neg g, h3]
    generalize hleft : nT a - q = left at eres enxt
    have hle : left ≤ nT a := by omega
    have key : ∀ n i (σ : S_), i + n = nR a → (∀ x, rdI σ x = rdI (wrI σ0 6 (nI left)) x) → (∀ j, ¬ j = 20 → ¬ j = 21 → ¬ j = 22 → ¬ j = 23 → rdA σ j = rdA σ0 j) → (∀ c, 20 ≤ c → c ≤ 23 → (∀ x, x < (keptL (fun x => decide (aRt a x < left)) i).length → rdA σ c x = rdA σ0 c ((keptL (fun x => decide (aRt a x < left)) i).getD x 0)) ∧ (∀ x, (keptL (fun x => decide (aRt a x < left)) i).length ≤ x → rdA σ c x = rdA σ0 c x)) → vl_X9_undo_31 (post_X9_undo (nI q) a σ0) (n + 1) (nI (keptL (fun x => decide (aRt a x < left)) i).length) (nI i) σ := by
      intro n
      induction n with
      | zero =>
        intro i σ hi hI hA hrow
        have : i = nR a := by omega
        subst this
        have e9 : rdI σ 9 = nI (nR a) := (hI 9).trans ((rI_ne _ _ (by decide)).trans (rr_R hR))
        refine ⟨fun _ => ?_, fun h => absurd (by rw [e9, z_le (by omega) (by omega)]; omega) h⟩
        rintro σ6 rfl
        refine ⟨?_, ?_⟩
        · rw [rI_ne _ _ (by decide), hI 6, rI_same]; exact eres.symm
        · rw [enxt]
          have w := wf_undo hR.1 hle
          have hmem := keptL_mem (fun x => decide (aRt a x < left)) (nR a)
          obtain ⟨_, e0, e1, e2, e3, e6, e7, e8, e9, e10, hp', ht, hm, hn, hr, hs'⟩ := hR
          have kI : ∀ x, ¬ x = 9 → ¬ x = 6 → rdI (wrI σ 9 (nI (keptL (fun x => decide (aRt a x < left)) (nR a)).length)) x = rdI σ0 x := fun x hx hx2 => by
            rw [rI_ne _ _ hx, hI x, rI_ne _ _ hx2]
          refine ⟨w, (kI 0 (by decide) (by decide)).trans e0, (kI 1 (by decide) (by decide)).trans e1, (kI 2 (by decide) (by decide)).trans e2, (kI 3 (by decide) (by decide)).trans e3, ?_, (kI 7 (by decide) (by decide)).trans e7, (kI 8 (by decide) (by decide)).trans e8, rfl, (kI 10 (by decide) (by decide)).trans e10, ?_, ?_, ?_, ?_, ?_, ?_⟩
          · rw [rI_ne _ _ (by decide), hI 6, rI_same]; rfl
          · intro p hq'; rw [rA_wI, rA_wI, rA_wI, hA 1 (by decide) (by decide) (by decide) (by decide), hA 2 (by decide) (by decide) (by decide) (by decide), hA 3 (by decide) (by decide) (by decide) (by decide)]; exact hp' p hq'
          · intro t htt; rw [rA_wI, rA_wI, rA_wI, rA_wI, hA 7 (by decide) (by decide) (by decide) (by decide), hA 8 (by decide) (by decide) (by decide) (by decide), hA 9 (by decide) (by decide) (by decide) (by decide), hA 10 (by decide) (by decide) (by decide) (by decide)]; exact ht t (Nat.lt_of_lt_of_le htt hle)
          · intro t htt; rw [rA_wI, rA_wI, rA_wI, hA 11 (by decide) (by decide) (by decide) (by decide), hA 12 (by decide) (by decide) (by decide) (by decide), hA 13 (by decide) (by decide) (by decide) (by decide)]; exact hm t htt
          · intro t htt; rw [rA_wI, rA_wI, hA 18 (by decide) (by decide) (by decide) (by decide), hA 19 (by decide) (by decide) (by decide) (by decide)]; exact hn t htt
          · intro x hx
            have hx' : x < (keptL (fun x => decide (aRt a x < left)) (nR a)).length := hx
            obtain ⟨m1, m2⟩ := hmem x hx'
            obtain ⟨r1, r2, r3, r4⟩ := hr _ m1
            rw [rA_wI, rA_wI, rA_wI, rA_wI, (hrow 20 (by decide) (by decide)).1 x hx', (hrow 21 (by decide) (by decide)).1 x hx', (hrow 22 (by decide) (by decide)).1 x hx', (hrow 23 (by decide) (by decide)).1 x hx']
            exact ⟨r1, r2, r3, r4⟩
          · intro x hx; rw [rA_wI, rA_wI, rA_wI, hA 24 (by decide) (by decide) (by decide) (by decide), hA 25 (by decide) (by decide) (by decide) (by decide), hA 26 (by decide) (by decide) (by decide) (by decide)]; exact hs' x hx
      | succ n ih =>
        intro i σ hi hI hA hrow
        have e9 : rdI σ 9 = nI (nR a) := (hI 9).trans ((rI_ne _ _ (by decide)).trans (rr_R hR))
        have hlen := keptL_len (fun x => decide (aRt a x < left)) i
        have hw := wf_r hR.1 (k := i) (by omega)
        have hstep : keptL (fun x => decide (aRt a x < left)) (i + 1) = if decide (aRt a i < left) = true then keptL (fun x => decide (aRt a x < left)) i ++ [i] else keptL (fun x => decide (aRt a x < left)) i := by rw [keptL]
        have hnx := ih (i + 1)
        rw [hstep] at hnx
        generalize hL : keptL (fun x => decide (aRt a x < left)) i = L at hlen hrow hnx ⊢
        have hold : ∀ c, 20 ≤ c → c ≤ 23 → rdA σ c i = rdA σ0 c i := fun c h1 h2 => (hrow c h1 h2).2 i hlen
        obtain ⟨r1, r2, r3, r4⟩ := rr_r hR (k := i) (by omega)
        have hcl : Int32.toNatClampNeg (nI i) = i := z_cl (by omega)
        have hclL : Int32.toNatClampNeg (nI L.length) = L.length := z_cl (by omega)
        have hii : vp_in (nI i) 8 := z_in (by omega) (by decide)
        have hiL : vp_in (nI L.length) 8 := z_in (by omega) (by decide)
        have hno : (fn_X9_noTale (nI (aRt a i)) σ = 0) = (aRt a i < left) := by
          rw [b2i_0, Classical.not_not, hI 6, rI_same, show (0 : Int32) = nI 0 from rfl, z_le (by decide) (by omega), z_lt (by omega) (by omega)]
          exact propext ⟨fun z => z.2, fun z => ⟨Nat.zero_le _, z⟩⟩
        refine ⟨fun h => ?_, fun _ => ⟨hii, ?_⟩⟩
        · rw [e9, z_le (by omega) (by omega)] at h; omega
        · rw [hcl, hold 21 (by decide) (by decide), r2, hno]
          refine ⟨fun hne => ?_, fun hlt => ⟨hii, hiL, ?_⟩⟩
          · rw [if_neg (fun z => hne (of_decide_eq_true z))] at hnx
            rw [nI_1]; exact hnx σ (by omega) hI hA hrow
          · rw [if_pos (decide_eq_true hlt)] at hnx
            rw [hclL]
            rintro σ8 rfl
            refine ⟨hii, hiL, ?_⟩
            rintro σ10 rfl
            refine ⟨hii, hiL, ?_⟩
            rintro σ12 rfl
            refine ⟨hii, hiL, ?_⟩
            rintro σ14 rfl
            have g20 : rdA σ 20 i = nI (aRof a i) := (hold 20 (by decide) (by decide)).trans r1
            have g21 : rdA (wr2 σ 20 L.length (nI (aRof a i))) 21 i = nI (aRt a i) := by rw [rA_w2n _ _ _ _ _ (by decide)]; exact (hold 21 (by decide) (by decide)).trans r2
            have g22 : rdA (wr2 (wr2 σ 20 L.length (nI (aRof a i))) 21 L.length (nI (aRt a i))) 22 i = nI (aRin a i) := by rw [rA_w2n _ _ _ _ _ (by decide), rA_w2n _ _ _ _ _ (by decide)]; exact (hold 22 (by decide) (by decide)).trans r3
            have g23 : rdA (wr2 (wr2 (wr2 σ 20 L.length (nI (aRof a i))) 21 L.length (nI (aRt a i))) 22 L.length (nI (aRin a i))) 23 i = nI (aRdid a i) := by rw [rA_w2n _ _ _ _ _ (by decide), rA_w2n _ _ _ _ _ (by decide), rA_w2n _ _ _ _ _ (by decide)]; exact (hold 23 (by decide) (by decide)).trans r4
            have en : vp_nar .boolean (nI (aRdid a i)) = nI (aRdid a i) := by
              have : aRdid a i = 0 ∨ aRdid a i = 1 := by omega
              rcases this with q | q <;> rw [q] <;> decide
            rw [g20, g21, g22, g23, en, nI_1, nI_1]
            rw [List.length_append, List.length_singleton] at hnx
            refine hnx _ (by omega) (fun x => ?_) (fun j j0 j1 j2 j3 => ?_) (fun c hc1 hc2 => ?_)
            · rw [rI_w2, rI_w2, rI_w2, rI_w2]; exact hI x
            · rw [rA_w2n _ _ _ _ _ j3, rA_w2n _ _ _ _ _ j2, rA_w2n _ _ _ _ _ j1, rA_w2n _ _ _ _ _ j0]; exact hA j j0 j1 j2 j3
            · have hval : ∀ x, rdA (wr2 (wr2 (wr2 (wr2 σ 20 L.length (nI (aRof a i))) 21 L.length (nI (aRt a i))) 22 L.length (nI (aRin a i))) 23 L.length (nI (aRdid a i))) c x = if x = L.length then rdA σ0 c i else rdA σ c x := by
                intro x
                have : c = 20 ∨ c = 21 ∨ c = 22 ∨ c = 23 := by omega
                rcases this with rfl | rfl | rfl | rfl
                · rw [rA_w2n _ _ _ _ _ (by decide), rA_w2n _ _ _ _ _ (by decide), rA_w2n _ _ _ _ _ (by decide), rA_w2s, r1]
                · rw [rA_w2n _ _ _ _ _ (by decide), rA_w2n _ _ _ _ _ (by decide), rA_w2s, rA_w2n _ _ _ _ _ (by decide), r2]
                · rw [rA_w2n _ _ _ _ _ (by decide), rA_w2s, rA_w2n _ _ _ _ _ (by decide), rA_w2n _ _ _ _ _ (by decide), r3]
                · rw [rA_w2s, rA_w2n _ _ _ _ _ (by decide), rA_w2n _ _ _ _ _ (by decide), rA_w2n _ _ _ _ _ (by decide), r4]
              obtain ⟨q1, q2⟩ := hrow c hc1 hc2
              refine ⟨fun x hx => ?_, fun x hx => ?_⟩
              · rw [hval]
                by_cases e : x = L.length
                · rw [if_pos e, e, List.getD_eq_getElem?_getD, List.getElem?_append_right (Nat.le_refl _), Nat.sub_self]; rfl
                · have hx2 : x < L.length := by omega
                  rw [if_neg e, List.getD_eq_getElem?_getD, List.getElem?_append_left hx2, ← List.getD_eq_getElem?_getD]; exact q1 x hx2
              · rw [hval, if_neg (by omega)]; exact q2 x (by omega)
    exact ⟨nR a + 1, key (nR a) 0 _ (by omega) (fun _ => rfl) (fun _ _ _ _ _ => rfl) (fun c _ _ => ⟨fun x hx => absurd hx (Nat.not_lt_zero x), fun _ _ => rfl⟩)⟩
