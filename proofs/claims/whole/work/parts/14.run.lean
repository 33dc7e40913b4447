/-! what the class's state gives -/
theorem rc_wf {a : AS} {σ : S_} (h : RC0 a σ) : WF a := h.1
theorem rc_le {a : AS} {σ : S_} (h : RC0 a σ) : nP a ≤ 6 ∧ nT a ≤ 6 ∧ nM a ≤ 8 ∧ nN a ≤ 6 ∧ nR a ≤ 8 := ⟨h.1.2.1, h.1.2.2.2.2.1, h.1.2.2.2.2.2.1, h.1.2.2.2.2.2.2.1, h.1.2.2.2.2.2.2.2.1⟩
theorem wf_p {a : AS} (h : WF a) {p : Nat} (hp : p < nP a) : aKind a p < 3 ∧ 1 ≤ aMinds a p ∧ aMinds a p ≤ 5 ∧ aHome a p < 3 := h.2.2.2.2.2.2.2.2.2.1 p hp
theorem wf_t {a : AS} (h : WF a) {t : Nat} (ht : t < nT a) : aDeed a t < 6 ∧ aTo a t < nP a ∧ aTin a t < 40 ∧ aPar a t ≤ 1 := h.2.2.2.2.2.2.2.2.2.2.1 t ht
theorem wf_m {a : AS} (h : WF a) {k : Nat} (hk : k < nM a) : aMof a k < nP a ∧ aMto a k < 3 ∧ aMin a k < 40 := h.2.2.2.2.2.2.2.2.2.2.2.1 k hk
theorem wf_n {a : AS} (h : WF a) {k : Nat} (hk : k < nN a) : aN1 a k < 6 ∧ aN2 a k < 6 := h.2.2.2.2.2.2.2.2.2.2.2.2.1 k hk
theorem wf_r {a : AS} (h : WF a) {k : Nat} (hk : k < nR a) : aRof a k < nP a ∧ aRt a k < nT a ∧ aRin a k < 40 ∧ aRdid a k ≤ 1 := h.2.2.2.2.2.2.2.2.2.2.2.2.2.1 k hk
theorem wf_s {a : AS} (h : WF a) {k : Nat} (hk : k < 4) : aSz a k ≤ 61 ∧ aLane a k < 3 := h.2.2.2.2.2.2.2.2.2.2.2.2.2.2.1 k hk
theorem rc_P {a : AS} {σ : S_} (h : RC0 a σ) : rdI σ 2 = nI (nP a) := h.2.1
theorem rc_T {a : AS} {σ : S_} (h : RC0 a σ) : rdI σ 5 = nI (nT a) := h.2.2.1
theorem rc_M {a : AS} {σ : S_} (h : RC0 a σ) : rdI σ 6 = nI (nM a) := h.2.2.2.1
theorem rc_N {a : AS} {σ : S_} (h : RC0 a σ) : rdI σ 7 = nI (nN a) := h.2.2.2.2.1
theorem rc_R {a : AS} {σ : S_} (h : RC0 a σ) : rdI σ 8 = nI (nR a) := h.2.2.2.2.2.1
theorem rc_t {a : AS} {σ : S_} (h : RC0 a σ) {t : Nat} (ht : t < nT a) : fn_X3_at 0 (nI t) 0 σ = nI (aTo a t) ∧ fn_X3_at 0 (nI t) 1 σ = nI (aTin a t) ∧ fn_X3_at 0 (nI t) 2 σ = nI (aDeed a t) ∧ fn_X3_at 0 (nI t) 3 σ = nI (aPar a t) := by
  have hl := rc_le h
  obtain ⟨b0, b1, b2, b3⟩ := h.2.2.2.2.2.2.1 t ht
  have e : rdI σ (5 + 0) = nI (nT a) := rc_T h
  exact ⟨(at_is (c := 0) e (by omega) ht (by decide)).trans b0, (at_is (c := 1) e (by omega) ht (by decide)).trans b1, (at_is (c := 2) e (by omega) ht (by decide)).trans b2, (at_is (c := 3) e (by omega) ht (by decide)).trans b3⟩
theorem rc_m {a : AS} {σ : S_} (h : RC0 a σ) {k : Nat} (hk : k < nM a) : fn_X3_at 1 (nI k) 0 σ = nI (aMof a k) ∧ fn_X3_at 1 (nI k) 1 σ = nI (aMin a k) ∧ fn_X3_at 1 (nI k) 2 σ = nI (aMto a k) := by
  have hl := rc_le h
  obtain ⟨b0, b1, b2⟩ := h.2.2.2.2.2.2.2.1 k hk
  have e : rdI σ (5 + 1) = nI (nM a) := rc_M h
  exact ⟨(at_is (c := 0) e (by omega) hk (by decide)).trans b0, (at_is (c := 1) e (by omega) hk (by decide)).trans b1, (at_is (c := 2) e (by omega) hk (by decide)).trans b2⟩
theorem rc_n {a : AS} {σ : S_} (h : RC0 a σ) {k : Nat} (hk : k < nN a) : fn_X3_at 2 (nI k) 0 σ = nI (aN1 a k) ∧ fn_X3_at 2 (nI k) 1 σ = nI (aN2 a k) := by
  have hl := rc_le h
  obtain ⟨b0, b1⟩ := h.2.2.2.2.2.2.2.2.1 k hk
  have e : rdI σ (5 + 2) = nI (nN a) := rc_N h
  exact ⟨(at_is (c := 0) e (by omega) hk (by decide)).trans b0, (at_is (c := 1) e (by omega) hk (by decide)).trans b1⟩
theorem rc_r {a : AS} {σ : S_} (h : RC0 a σ) {k : Nat} (hk : k < nR a) : fn_X3_at 3 (nI k) 0 σ = nI (aRof a k) ∧ fn_X3_at 3 (nI k) 1 σ = nI (aRin a k) ∧ fn_X3_at 3 (nI k) 2 σ = nI (aRt a k) ∧ fn_X3_at 3 (nI k) 3 σ = nI (aRdid a k) := by
  have hl := rc_le h
  obtain ⟨b0, b1, b2, b3⟩ := h.2.2.2.2.2.2.2.2.2.1 k hk
  have e : rdI σ (5 + 3) = nI (nR a) := rc_R h
  exact ⟨(at_is (c := 0) e (by omega) hk (by decide)).trans b0, (at_is (c := 1) e (by omega) hk (by decide)).trans b1, (at_is (c := 2) e (by omega) hk (by decide)).trans b2, (at_is (c := 3) e (by omega) hk (by decide)).trans b3⟩
theorem rc_l0 {a : AS} {σ : S_} (h : RC0 a σ) : leOK 0 σ := ⟨by decide, nT a, by have := rc_le h; show _ ≤ 6; omega, rc_T h⟩
theorem rc_l1 {a : AS} {σ : S_} (h : RC0 a σ) : leOK 1 σ := ⟨by decide, nM a, by have := rc_le h; show _ ≤ 8; omega, rc_M h⟩
theorem rc_l2 {a : AS} {σ : S_} (h : RC0 a σ) : leOK 2 σ := ⟨by decide, nN a, by have := rc_le h; show _ ≤ 6; omega, rc_N h⟩
theorem rc_l3 {a : AS} {σ : S_} (h : RC0 a σ) : leOK 3 σ := ⟨by decide, nR a, by have := rc_le h; show _ ≤ 8; omega, rc_R h⟩
theorem rc_H {a : AS} {σ : S_} (h : RC0 a σ) : nH σ = nP a := h.2.2.2.2.2.2.2.2.2.2.1
theorem rc_p {a : AS} {σ : S_} (h : RC0 a σ) {p : Nat} (hp : p < nP a) : pg σ p = some (hget σ p).1 ∧ (hget σ p).2.1 = kcl (aKind a p) ∧ (hget σ p).2.2.1 = nI p ∧ (hget σ p).2.2.2.1 = nI (aMinds a p) ∧ (hget σ p).2.2.2.2 = nI (aHome a p) := h.2.2.2.2.2.2.2.2.2.2.2 p hp
theorem rc_pe {a : AS} {σ : S_} (h : RC0 a σ) : peOK σ := ⟨nP a, (rc_le h).1, rc_P h, rc_H h, fun q hq => (rc_p h hq).1⟩
theorem kcl_isC (k : Nat) : isC (kcl k) := by
  unfold kcl isC; split
  · exact Or.inr (Or.inr rfl)
  · split
    · exact Or.inl rfl
    · exact Or.inr (Or.inl rfl)
theorem mem_is {a : AS} {σ : S_} (h : RC0 a σ) {p : Nat} (hp : p < nP a) : fn_PE_memory p σ = nI (memA a p) := by
  obtain ⟨-, h1, -, h2, -⟩ := rc_p h hp
  have hw := wf_p h.1 hp
  unfold fn_PE_memory memA
  rw [h1, h2]
  have hk : aKind a p = 0 ∨ aKind a p = 1 ∨ aKind a p = 2 := by omega
  rcases hk with e | e | e <;> rw [e]
  · rfl
  · show nI (aMinds a p) + nI 2 = nI (aMinds a p + 2)
    rw [nI_add]
  · show nI 2 * (nI (aMinds a p) + nI 2) = nI (2 * (aMinds a p + 2))
    rw [nI_add, pk_mul]
theorem memA_le {a : AS} (h : WF a) {p : Nat} (hp : p < nP a) : 1 ≤ memA a p ∧ memA a p ≤ 14 := by
  have hw := wf_p h hp
  unfold memA; split
  · omega
  · split <;> omega
theorem rf_sameB (σ : S_) : sameB σ σ := ⟨fun _ _ => rfl, fun _ _ => rfl, rfl⟩
theorem sameB.tr {x y z : S_} (h1 : sameB x y) (h2 : sameB y z) : sameB x z := ⟨fun k hk => (h2.1 k hk).trans (h1.1 k hk), fun j hj => (h2.2.1 j hj).trans (h1.2.1 j hj), h2.2.2.trans h1.2.2⟩
theorem sameB_wI {x : S_} {k : Nat} {v : Int32} (hk : 9 ≤ k) (hk2 : k < 12) : sameB x (wrI x k v) := ⟨fun i hi => rI_ne _ _ (by omega), fun _ _ => rfl, rfl⟩
theorem sameB_wA {x : S_} {j : Nat} {f : Nat → Int32} (hj : 8 ≤ j) : sameB x (wrA x j f) := ⟨fun i hi => rfl, fun i hi => by rw [rA_wA, if_neg (by omega)], rfl⟩
theorem sameB_w2 {x : S_} {j i : Nat} {v : Int32} (hj : 8 ≤ j) : sameB x (wr2 x j i v) := sameB_wA hj
theorem hget_same {x y : S_} (h : y.2 = x.2) (q : Nat) : hget y q = hget x q := by unfold hget; rw [h]
theorem sameB.rc0 {a : AS} {x y : S_} (h : sameB x y) (r : RC0 a x) : RC0 a y := by
  obtain ⟨h1, h2, h3⟩ := h
  obtain ⟨w, e2, e5, e6, e7, e8, ht, hm, hn, hr, hH, hp⟩ := r
  refine ⟨w, (h1 2 (by omega)).trans e2, (h1 5 (by omega)).trans e5, (h1 6 (by omega)).trans e6, (h1 7 (by omega)).trans e7, (h1 8 (by omega)).trans e8, ?_, ?_, ?_, ?_, ?_, ?_⟩
  · rw [h2 4 (by omega)]; exact ht
  · rw [h2 5 (by omega)]; exact hm
  · rw [h2 6 (by omega)]; exact hn
  · rw [h2 7 (by omega)]; exact hr
  · unfold nH; rw [h3]; exact hH
  · intro p hq; rw [hget_same h3]; unfold pg; rw [h3]; exact hp p hq
theorem sameB.rc1 {a : AS} {x y : S_} (h : sameB x y) (r : RC1 a x) : RC1 a y := by
  obtain ⟨h1, h2, h3⟩ := h
  obtain ⟨e0, e1, hs⟩ := r
  refine ⟨(h1 0 (by omega)).trans e0, (h1 1 (by omega)).trans e1, fun k hk => ?_⟩
  rw [h1 _ (by omega), h1 _ (by omega), h2 k (by omega)]
  exact hs k hk
theorem sameB.rc {a : AS} {x y : S_} (h : sameB x y) (r : RC a x) : RC a y := ⟨h.rc0 r.1, (h.1 3 (by omega)).trans r.2.1, (h.1 4 (by omega)).trans r.2.2.1, h.rc1 r.2.2.2⟩
/-! going through the seasons: what changes when -/
theorem rHd_hear (r : RS) (p t T p' t' : Nat) : rHd (hearR r p t T) p' t' = if p' = p ∧ t' = t then T else rHd r p' t' := by
  unfold rHd hearR up2 va_up
  by_cases h1 : p' = p
  · subst h1
    by_cases h2 : t' = t
    · subst h2; simp
    · simp [h2]
  · simp [h1]
theorem remB_hear (a : AS) (r : RS) {p t T : Nat} (p' t' : Nat) : remB a (hearR r p t T) T p' t' = if p' = p ∧ t' = t then decide (0 < T) else remB a r T p' t' := by
  unfold remB; rw [rHd_hear]
  by_cases h : p' = p ∧ t' = t
  · rw [if_pos h, if_pos h]; apply decide_eq_decide.mpr; omega
  · rw [if_neg h, if_neg h]
theorem maskB_or (f g : Nat → Bool) (n : Nat) : maskB f n ||| maskB g n = maskB (fun i => f i || g i) n := by
  apply Nat.eq_of_testBit_eq
  intro i
  rw [Nat.testBit_or, maskB_bit, maskB_bit, maskB_bit]
  cases decide (i < n) <;> simp
theorem maskB_add {f g : Nat → Bool} {n t : Nat} (ht : t < n) (hg : ∀ i, i < n → g i = if i = t then true else f i) : maskB f n ||| 2 ^ t = maskB g n := by
  apply Nat.eq_of_testBit_eq
  intro i
  rw [Nat.testBit_or, maskB_bit, maskB_bit, Nat.testBit_two_pow]
  by_cases hi : i < n
  · rw [hg i hi]
    by_cases e : i = t
    · subst e; simp [hi]
    · rw [if_neg e]; simp; intro h; omega
  · have : ¬ t = i := by omega
    simp [hi, this]
theorem clr_s : ∀ m, m < 64 → ∀ t, t < 6 → (nI m &&& (((1 : Int32) <<< (nI t &&& 31)) ^^^ (-1))) = nI (m &&& (63 ^^^ 2 ^ t)) := by decide +kernel
theorem clr_b : ∀ m, m < 64 → ∀ t, t < 6 → ∀ i, i < 6 → (m &&& (63 ^^^ 2 ^ t)).testBit i = (m.testBit i && !decide (i = t)) := by decide +kernel
theorem maskB_clr {f g : Nat → Bool} {n t : Nat} (hn : n ≤ 6) (ht : t < n) (hg : ∀ i, i < n → g i = if i = t then false else f i) : maskB f n &&& (63 ^^^ 2 ^ t) = maskB g n := by
  apply Nat.eq_of_testBit_eq
  intro i
  have h64 := maskB_lt64 f hn
  by_cases hi : i < 6
  · rw [clr_b _ h64 t (by omega) i hi, maskB_bit, maskB_bit]
    by_cases hin : i < n
    · rw [hg i hin]
      by_cases e : i = t
      · subst e; simp
      · simp [e]
    · simp [hin]
  · rw [Nat.testBit_and, maskB_bit, maskB_bit]
    have : ¬ i < n := by omega
    simp [this]
