theorem rr_wf {a : AS} {σ : S_} (h : RR a σ) : WF a := h.1
theorem rr_le {a : AS} {σ : S_} (h : RR a σ) : nP a ≤ 6 ∧ nT a ≤ 6 ∧ nM a ≤ 8 ∧ nN a ≤ 6 ∧ nR a ≤ 8 := ⟨h.1.2.1, h.1.2.2.2.2.1, h.1.2.2.2.2.2.1, h.1.2.2.2.2.2.2.1, h.1.2.2.2.2.2.2.2.1⟩
theorem rr_F {a : AS} {σ : S_} (h : RR a σ) : rdI σ 0 = nI (aFault a) := h.2.1
theorem rr_P {a : AS} {σ : S_} (h : RR a σ) : rdI σ 1 = nI (nP a) := h.2.2.1
theorem rr_paid {a : AS} {σ : S_} (h : RR a σ) : rdI σ 2 = nI (aPaid a) := h.2.2.2.1
theorem rr_law {a : AS} {σ : S_} (h : RR a σ) : rdI σ 3 = nI (aLaw a) := h.2.2.2.2.1
theorem rr_T {a : AS} {σ : S_} (h : RR a σ) : rdI σ 6 = nI (nT a) := h.2.2.2.2.2.1
theorem rr_M {a : AS} {σ : S_} (h : RR a σ) : rdI σ 7 = nI (nM a) := h.2.2.2.2.2.2.1
theorem rr_N {a : AS} {σ : S_} (h : RR a σ) : rdI σ 8 = nI (nN a) := h.2.2.2.2.2.2.2.1
theorem rr_R {a : AS} {σ : S_} (h : RR a σ) : rdI σ 9 = nI (nR a) := h.2.2.2.2.2.2.2.2.1
theorem rr_tr {a : AS} {σ : S_} (h : RR a σ) : rdI σ 10 = aTr a := h.2.2.2.2.2.2.2.2.2.1
theorem rr_p {a : AS} {σ : S_} (h : RR a σ) {p : Nat} (hp : p < nP a) : rdA σ 1 p = nI (aKind a p) ∧ rdA σ 2 p = nI (aMinds a p) ∧ rdA σ 3 p = nI (aHome a p) := h.2.2.2.2.2.2.2.2.2.2.1 p hp
theorem rr_t {a : AS} {σ : S_} (h : RR a σ) {t : Nat} (ht : t < nT a) : rdA σ 7 t = nI (aDeed a t) ∧ rdA σ 8 t = nI (aTo a t) ∧ rdA σ 9 t = nI (aTin a t) ∧ rdA σ 10 t = nI (aPar a t) := h.2.2.2.2.2.2.2.2.2.2.2.1 t ht
theorem rr_m {a : AS} {σ : S_} (h : RR a σ) {k : Nat} (hk : k < nM a) : rdA σ 11 k = nI (aMof a k) ∧ rdA σ 12 k = nI (aMto a k) ∧ rdA σ 13 k = nI (aMin a k) := h.2.2.2.2.2.2.2.2.2.2.2.2.1 k hk
theorem rr_n {a : AS} {σ : S_} (h : RR a σ) {k : Nat} (hk : k < nN a) : rdA σ 18 k = nI (aN1 a k) ∧ rdA σ 19 k = nI (aN2 a k) := h.2.2.2.2.2.2.2.2.2.2.2.2.2.1 k hk
theorem rr_r {a : AS} {σ : S_} (h : RR a σ) {k : Nat} (hk : k < nR a) : rdA σ 20 k = nI (aRof a k) ∧ rdA σ 21 k = nI (aRt a k) ∧ rdA σ 22 k = nI (aRin a k) ∧ rdA σ 23 k = nI (aRdid a k) := h.2.2.2.2.2.2.2.2.2.2.2.2.2.2.1 k hk
theorem rr_s {a : AS} {σ : S_} (h : RR a σ) {k : Nat} (hk : k < 4) : rdA σ 24 k + 1 = nI (aSz a k) ∧ (0 < aSz a k → rdA σ 25 k = nI (aLane a k)) ∧ ∀ i, i + 1 < aSz a k → rdA σ 26 (60 * k + i) = aCell a k i := h.2.2.2.2.2.2.2.2.2.2.2.2.2.2.2 k hk
theorem rf_sameR (σ : S_) : sameR σ σ := ⟨fun _ => rfl, fun _ _ => rfl⟩
theorem sameR.tr {x y z : S_} (h1 : sameR x y) (h2 : sameR y z) : sameR x z := ⟨fun k => (h2.1 k).trans (h1.1 k), fun j hj => (h2.2 j hj).trans (h1.2 j hj)⟩
theorem sameR_w2 {x : S_} {j i : Nat} {v : Int32} (hj : 14 ≤ j) (hj2 : j ≤ 17) : sameR x (wr2 x j i v) := ⟨fun _ => rfl, fun i hi => rA_w2n _ _ _ _ _ (by omega)⟩
theorem sameR.rr {a : AS} {x y : S_} (h : sameR x y) (r : RR a x) : RR a y := by
  obtain ⟨hI, hA⟩ := h
  obtain ⟨w, e0, e1, e2, e3, e6, e7, e8, e9, e10, hp, ht, hm, hn, hr, hs⟩ := r
  refine ⟨w, by rw [hI]; exact e0, by rw [hI]; exact e1, by rw [hI]; exact e2, by rw [hI]; exact e3, by rw [hI]; exact e6, by rw [hI]; exact e7, by rw [hI]; exact e8, by rw [hI]; exact e9, by rw [hI]; exact e10, ?_, ?_, ?_, ?_, ?_, ?_⟩
  · rw [hA 1 (by omega), hA 2 (by omega), hA 3 (by omega)]; exact hp
  · rw [hA 7 (by omega), hA 8 (by omega), hA 9 (by omega), hA 10 (by omega)]; exact ht
  · rw [hA 11 (by omega), hA 12 (by omega), hA 13 (by omega)]; exact hm
  · rw [hA 18 (by omega), hA 19 (by omega)]; exact hn
  · rw [hA 20 (by omega), hA 21 (by omega), hA 22 (by omega), hA 23 (by omega)]; exact hr
  · rw [hA 24 (by omega), hA 25 (by omega), hA 26 (by omega)]; exact hs
theorem sp_X9_memoryOf : Sp_X9_memoryOf := by
  intro p a p1 σ hp
  obtain ⟨hR, rfl, hp1⟩ := hp
  have hl := rr_le hR
  have hw := wf_p hR.1 hp1
  obtain ⟨k1, k2, k3⟩ := rr_p hR hp1
  rw [vc_X9_memoryOf, z_cl (by omega), k1, k2]
  refine ⟨z_in (by omega) (by decide), z_in (by omega) (by decide), fun h => ⟨z_in (by omega) (by decide), fun h2 => ?_, fun h2 => ?_⟩, fun h => ?_⟩
  · rw [show (0 : Int32) = nI 0 from rfl, z_eq (by omega) (by decide)] at h
    rw [show (1 : Int32) = nI 1 from rfl, z_eq (by omega) (by decide)] at h2
    show _ = nI (memA a p1)
    unfold memA; rw [if_neg h, if_neg h2, show (2 : Int32) = nI 2 from rfl, nI_add, pk_mul]
  · rw [show (0 : Int32) = nI 0 from rfl, z_eq (by omega) (by decide)] at h
    rw [show (1 : Int32) = nI 1 from rfl, z_eq (by omega) (by decide)] at h2
    show _ = nI (memA a p1)
    unfold memA; rw [if_neg h, if_pos h2, show (2 : Int32) = nI 2 from rfl, nI_add]
  · rw [show (0 : Int32) = nI 0 from rfl, z_eq (by omega) (by decide)] at h
    show _ = nI (memA a p1)
    unfold memA; rw [if_pos h]
theorem sp_X9_begin : Sp_X9_begin := by
  intro a σ0 hp
  have hR : RR a σ0 := hp
  have hl := rr_le hR
  have k3 : ∀ k i (σ : S_), i + k = 18 → sameR σ0 σ → (∀ p, p < nP a → rdA σ 14 p = nI (aHome a p)) → (∀ x, x < 36 → rdA σ 15 x = -999) → (∀ x, x < i → rdA σ 16 x = -999) → vl_X9_begin_53 (post_X9_begin a σ0) (k + 1) (nI i) σ := by
    intro k
    induction k with
    | zero =>
      intro i σ hi hs h14 h15 h16
      refine ⟨fun _ => ⟨hs, by decide, fun p hq => ⟨(wf_p hR.1 hq).2.2.2, h14 p hq⟩, fun p t hq ht => ⟨Nat.le_refl 0, h15 _ (by omega)⟩, fun h t hh ht => ⟨Nat.le_refl 0, h16 _ (by omega)⟩⟩, fun h => absurd (by rw [show (18 : Int32) = nI 18 from rfl, z_le (by omega) (by omega)]; omega) h⟩
    | succ k ih =>
      intro i σ hi hs h14 h15 h16
      refine ⟨fun h => ?_, fun _ => ⟨z_in (by omega) (by decide), ?_⟩⟩
      · rw [show (18 : Int32) = nI 18 from rfl, z_le (by omega) (by omega)] at h; omega
      · rintro σ7 rfl
        rw [z_cl (by omega), nI_1]
        refine ih (i + 1) _ (by omega) (hs.tr (sameR_w2 (by decide) (by decide))) (fun p hq => by rw [rA_w2n _ _ _ _ _ (show (14 : Nat) ≠ 16 by decide)]; exact h14 p hq) (fun x hx => by rw [rA_w2n _ _ _ _ _ (show (15 : Nat) ≠ 16 by decide)]; exact h15 x hx) (fun x hx => ?_)
        rw [rA_w2s]
        by_cases e : x = i
        · rw [if_pos e]
        · rw [if_neg e]; exact h16 x (by omega)
  have k2 : ∀ k i (σ : S_), i + k = 36 → sameR σ0 σ → (∀ p, p < nP a → rdA σ 14 p = nI (aHome a p)) → (∀ x, x < i → rdA σ 15 x = -999) → vl_X9_begin_30 (post_X9_begin a σ0) (k + 1) (nI i) σ := by
    intro k
    induction k with
    | zero =>
      intro i σ hi hs h14 h15
      refine ⟨fun _ => ⟨18 + 1, k3 18 0 σ (by omega) hs h14 (fun x hx => h15 x (by omega)) (fun x hx => absurd hx (Nat.not_lt_zero x))⟩, fun h => absurd (by rw [show (36 : Int32) = nI 36 from rfl, z_le (by omega) (by omega)]; omega) h⟩
    | succ k ih =>
      intro i σ hi hs h14 h15
      refine ⟨fun h => ?_, fun _ => ⟨z_in (by omega) (by decide), ?_⟩⟩
      · rw [show (36 : Int32) = nI 36 from rfl, z_le (by omega) (by omega)] at h; omega
      · rintro σ7 rfl
        rw [z_cl (by omega), nI_1]
        refine ih (i + 1) _ (by omega) (hs.tr (sameR_w2 (by decide) (by decide))) (fun p hq => by rw [rA_w2n _ _ _ _ _ (show (14 : Nat) ≠ 15 by decide)]; exact h14 p hq) (fun x hx => ?_)
        rw [rA_w2s]
        by_cases e : x = i
        · rw [if_pos e]
        · rw [if_neg e]; exact h15 x (by omega)
  have k1 : ∀ k i (σ : S_), i + k = nP a → sameR σ0 σ → (∀ p, p < i → rdA σ 14 p = nI (aHome a p)) → vl_X9_begin_2 (post_X9_begin a σ0) (k + 1) (nI i) σ := by
    intro k
    induction k with
    | zero =>
      intro i σ hi hs h14
      have : i = nP a := by omega
      subst this
      refine ⟨fun _ => ⟨36 + 1, k2 36 0 σ (by omega) hs h14 (fun x hx => absurd hx (Nat.not_lt_zero x))⟩, fun h => absurd (by rw [rr_P (hs.rr hR), z_le (by omega) (by omega)]; omega) h⟩
    | succ k ih =>
      intro i σ hi hs h14
      have hR' := hs.rr hR
      refine ⟨fun h => ?_, fun _ => ⟨z_in (by omega) (by decide), z_in (by omega) (by decide), ?_⟩⟩
      · rw [rr_P hR', z_le (by omega) (by omega)] at h; omega
      · rintro σ7 rfl
        rw [z_cl (by omega), (rr_p hR' (p := i) (by omega)).2.2, nI_1]
        refine ih (i + 1) _ (by omega) (hs.tr (sameR_w2 (by decide) (by decide))) (fun x hx => ?_)
        rw [rA_w2s]
        by_cases e : x = i
        · rw [if_pos e, e]
        · rw [if_neg e]; exact h14 x (by omega)
  exact ⟨nP a + 1, k1 (nP a) 0 σ0 (by omega) (rf_sameR _) (fun p hq => absurd hq (Nat.not_lt_zero p))⟩
theorem jx6 {h t n : Nat} (hh : h < n) (ht : t < 6) (hn : n ≤ 6) : vp_in (6 * nI h + nI t) (6 * n) ∧ Int32.toNatClampNeg (6 * nI h + nI t) = 6 * h + t := by
  have e : 6 * nI h + nI t = nI (6 * h + t) := by rw [show (6 : Int32) = nI 6 from rfl, pk_mul, nI_add]
  rw [e]
  exact ⟨z_in (by omega) (by omega), z_cl (by omega)⟩
theorem enc_sub {S x m : Nat} (hS : S < 100) (hx : x ≤ S + 1) (hm : m < 100) : (nI m < nI S - encR x) ↔ ¬ (0 < x ∧ S + 1 ≤ x + m) := by
  unfold encR
  by_cases h : x = 0
  · rw [if_pos h, show nI S - (-999) = nI (S + 999) from by rw [← nI_add]; exact Int32.sub_eq_add_neg .., z_lt (by omega) (by omega)]
    omega
  · rw [if_neg h, pk_sub (by omega), z_lt (by omega) (by omega)]
    omega
theorem sp_X9_doesRemember : Sp_X9_doesRemember := by
  intro p t season a r S p1 t1 σ hp
  obtain ⟨hR, ⟨hT, h1, h2, h3⟩, rfl, ⟨rfl, hp1⟩, ⟨rfl, ht1⟩⟩ := hp
  have hl := rr_le hR
  obtain ⟨i1, i2⟩ := jx6 (h := p1) (t := t1) (n := 6) (by omega) (by omega) (by decide)
  obtain ⟨b1, b2⟩ := h2 p1 t1 hp1 ht1
  have hm := memA_le hR.1 hp1
  refine ⟨i1, a, p1, ⟨hR, rfl, hp1⟩, ?_⟩
  rintro r3 rfl
  rw [i2, b2, enc_sub (by omega) b1 (by omega)]
  refine ⟨fun h => ?_, fun h => ?_⟩
  · exact (b2i_f (by unfold remB; rw [decide_eq_true_eq]; exact h)).symm
  · rw [Classical.not_not] at h
    exact (b2i_t (by unfold remB; rw [decide_eq_true_eq]; exact h)).symm
theorem sp_X9_isAlive : Sp_X9_isAlive := by
  intro t season a r S t1 σ hp
  obtain ⟨hR, hrun, rfl, ⟨rfl, ht1⟩⟩ := hp
  have hl := rr_le hR
  have key : ∀ k i, i + k = nP a → vl_X9_isAlive_5 (nI t1) (nI S) σ (post_X9_isAlive (nI t1) (nI S) a r S t1 σ) (k + 1) (b2i (anyB (fun p => remB a r (S + 1) p t1) i = true)) (nI i) := by
    intro k
    induction k with
    | zero =>
      intro i hi
      have : i = nP a := by omega
      subst this
      exact ⟨fun _ => ⟨b2i_01 _, rfl⟩, fun h => absurd (by rw [rr_P hR, z_le (by omega) (by omega)]; omega) h⟩
    | succ k ih =>
      intro i hi
      refine ⟨fun h => ?_, fun _ => ⟨fun b => b = b2i (anyB (fun p => remB a r (S + 1) p t1) (i + 1) = true), ⟨fun h => ?_, fun h => ⟨a, r, S, i, t1, ⟨hR, hrun, rfl, ⟨rfl, by omega⟩, ⟨rfl, ht1⟩⟩, fun x hx => ⟨fun e => ?_, fun e => ?_⟩⟩⟩, fun b hb => ?_⟩⟩
      · rw [rr_P hR, z_le (by omega) (by omega)] at h; omega
      · rw [b2i_0, Classical.not_not] at h
        exact (b2i_t (by rw [anyB, h]; rfl)).symm
      · rw [b2i_0, Bool.not_eq_true] at h
        rw [show x = _ from hx, b2i_0, Bool.not_eq_true] at e
        exact (b2i_f (by rw [anyB, h, e]; exact Bool.false_ne_true)).symm
      · rw [show x = _ from hx, b2i_0, Classical.not_not] at e
        exact (b2i_t (by rw [anyB, e, Bool.or_true])).symm
      · rw [show b = _ from hb, nI_1]; exact ih (i + 1) (by omega)
  refine ⟨nP a + 1, ?_⟩
  have := key (nP a) 0 (by omega)
  rw [b2i_f (show ¬ anyB (fun p => remB a r (S + 1) p t1) 0 = true from Bool.false_ne_true)] at this
  exact this
theorem sp_X9_isKnownAt : Sp_X9_isKnownAt := by
  intro h t season a r S h1 t1 σ hp
  obtain ⟨hR, hrun, rfl, ⟨rfl, hh1⟩, ⟨rfl, ht1⟩⟩ := hp
  have hl := rr_le hR
  have key : ∀ k i, i + k = nP a → vl_X9_isKnownAt_6 (nI h1) (nI t1) (nI S) σ (post_X9_isKnownAt (nI h1) (nI t1) (nI S) a r S h1 t1 σ) (k + 1) (b2i (anyB (fun p => decide (rAt r p = h1) && remB a r (S + 1) p t1) i = true)) (nI i) := by
    intro k
    induction k with
    | zero =>
      intro i hi
      have : i = nP a := by omega
      subst this
      exact ⟨fun _ => ⟨b2i_01 _, rfl⟩, fun h => absurd (by rw [rr_P hR, z_le (by omega) (by omega)]; omega) h⟩
    | succ k ih =>
      intro i hi
      obtain ⟨c1, c2⟩ := hrun.2.1 i (by omega)
      refine ⟨fun h => ?_, fun _ => ⟨fun b => b = b2i (anyB (fun p => decide (rAt r p = h1) && remB a r (S + 1) p t1) (i + 1) = true), ⟨fun h => ?_, fun h => ⟨z_in (by omega) (by decide), fun h2 => ?_, fun h2 => ⟨a, r, S, i, t1, ⟨hR, hrun, rfl, ⟨rfl, by omega⟩, ⟨rfl, ht1⟩⟩, fun x hx => ⟨fun e => ?_, fun e => ?_⟩⟩⟩⟩, fun b hb => ?_⟩⟩
      · rw [rr_P hR, z_le (by omega) (by omega)] at h; omega
      · rw [b2i_0, Classical.not_not] at h
        exact (b2i_t (by rw [anyB, h]; rfl)).symm
      · rw [b2i_0, Bool.not_eq_true] at h
        rw [z_cl (by omega), c2, z_eq (by omega) (by omega)] at h2
        exact (b2i_f (by rw [anyB, h, decide_eq_false h2]; exact Bool.false_ne_true)).symm
      · rw [b2i_0, Bool.not_eq_true] at h
        rw [show x = _ from hx, b2i_0, Bool.not_eq_true] at e
        exact (b2i_f (by rw [anyB, h, e, Bool.and_false]; exact Bool.false_ne_true)).symm
      · rw [z_cl (by omega), c2, z_eq (by omega) (by omega)] at h2
        rw [show x = _ from hx, b2i_0, Classical.not_not] at e
        exact (b2i_t (by rw [anyB, e, decide_eq_true h2, Bool.and_true, Bool.or_true])).symm
      · rw [show b = _ from hb, nI_1]; exact ih (i + 1) (by omega)
  refine ⟨nP a + 1, ?_⟩
  have := key (nP a) 0 (by omega)
  rw [b2i_f (show ¬ anyB (fun p => decide (rAt r p = h1) && remB a r (S + 1) p t1) 0 = true from Bool.false_ne_true)] at this
  exact this
theorem enc_lt {x y : Nat} (hx : x < 100) (hy : y < 100) : ((0 : Int32) < encR y - encR x) ↔ x < y := by
  have h : ∀ x, x < 100 → ∀ y, y < 100 → ((0 : Int32) < encR y - encR x ↔ x < y) := by decide +kernel
  exact h x hx y hy
theorem enc_eq {x y : Nat} (hx : x < 100) (hy : y < 100) : (encR y - encR x = (0 : Int32)) ↔ x = y := by
  have h : ∀ x, x < 100 → ∀ y, y < 100 → (encR y - encR x = (0 : Int32) ↔ x = y) := by decide +kernel
  exact h x hx y hy
theorem sp_X9_isRather : Sp_X9_isRather := by
  intro h t b a r S h1 t1 b1 σ hp
  obtain ⟨hR, ⟨hT, g1, g2, g3⟩, ⟨rfl, hh1⟩, ⟨rfl, ht1⟩, ⟨rfl, hb1⟩⟩ := hp
  have hl := rr_le hR
  have hw : aLaw a < 3 := hR.1.2.2.2.1
  obtain ⟨i1, i2⟩ := jx6 (h := h1) (t := b1) (n := 3) (by omega) (by omega) (by decide)
  obtain ⟨i3, i4⟩ := jx6 (h := h1) (t := t1) (n := 3) (by omega) (by omega) (by decide)
  obtain ⟨c1, c2⟩ := g3 h1 t1 hh1 ht1
  obtain ⟨c3, c4⟩ := g3 h1 b1 hh1 (by omega)
  refine ⟨fun h2 => ⟨i1, i3, ?_⟩, fun h2 => ⟨fun h0 => ⟨fun h3 => ?_, fun h3 => ?_⟩, fun h0 => ⟨fun h3 => ?_, fun h3 => ?_⟩⟩⟩
  · rw [rr_law hR, show (2 : Int32) = nI 2 from rfl, z_le (by decide) (by omega)] at h2
    rintro x1 rfl
    rw [i2, i4, c2, c4, enc_lt (by omega) (by omega), enc_eq (by omega) (by omega)]
    have e : rath a r h1 t1 b1 = decide (rTl r h1 t1 < rTl r h1 b1) := by unfold rath; rw [if_neg (by omega), if_neg (by omega)]
    refine ⟨fun h3 => ?_, fun h3 => ⟨fun h4 => ?_, fun h4 => ⟨fun h5 => ?_, fun h5 => ?_⟩⟩⟩
    · exact (b2i_t (by rw [e, decide_eq_true_eq]; exact h3)).symm
    · exact (b2i_f (by rw [e, decide_eq_true_eq]; exact h3)).symm
    · exact (b2i_f (by rw [e, decide_eq_true_eq]; exact h3)).symm
    · rw [z_le (by omega) (by omega)] at h5; omega
  · rw [z_le (by omega) (by omega)] at h3
    rw [rr_law hR, show (2 : Int32) = nI 2 from rfl, z_le (by decide) (by omega)] at h2
    rw [rr_law hR, show (0 : Int32) = nI 0 from rfl, z_eq (by omega) (by decide)] at h0
    exact (b2i_f (by unfold rath; rw [if_neg h0, if_pos (by omega)]; exact Bool.false_ne_true)).symm
  · rw [z_le (by omega) (by omega)] at h3; omega
  · rw [z_le (by omega) (by omega)] at h3; omega
  · rw [rr_law hR, show (0 : Int32) = nI 0 from rfl, z_eq (by omega) (by decide)] at h0
    exact (b2i_t (by unfold rath; rw [if_pos h0])).symm
