theorem ix6 {h t n : Nat} (hh : h < n) (ht : t < 6) (hn : n ≤ 6) : vp_in (nI h * 6 + nI t) (6 * n) ∧ Int32.toNatClampNeg (nI h * 6 + nI t) = 6 * h + t := by
  have e : nI h * 6 + nI t = nI (6 * h + t) := by rw [show (6 : Int32) = nI 6 from rfl, pk_mul, nI_add, Nat.mul_comm]
  rw [e]
  exact ⟨z_in (by omega) (by omega), z_cl (by omega)⟩
theorem m1_of {x : Int32} {X : Nat} (h : x + 1 = nI X) : x = nI X - nI 1 := by
  rw [← h]; exact (Int32.add_sub_cancel x 1).symm
theorem m1_le {x y : Int32} {X Y : Nat} (hx : x + 1 = nI X) (hy : y + 1 = nI Y) (bX : X < 1000) (bY : Y < 1000) : (x ≤ y) = (X ≤ Y) := by
  rw [m1_of hx, m1_of hy, Int32.le_iff_toInt_le, pk_sub_toInt (by omega) (by decide), pk_sub_toInt (by omega) (by decide)]
  apply propext; omega
theorem m1_nI {x : Int32} {X : Nat} (hx : x + 1 = nI X) (h : 1 ≤ X) : x = nI (X - 1) := by
  rw [m1_of hx, pk_sub h]
theorem sp_X4_isRather : Sp_X4_isRather := by
  intro h t b a r T h1 t1 b1 σ hp
  obtain ⟨hC, ⟨hT, e11, e9, e10, hp, hpt, hht⟩, ⟨rfl, hh⟩, ⟨rfl, ht⟩, ⟨rfl, hb⟩⟩ := hp
  have hl := rc_le hC
  have hw : aLaw a < 3 := hC.1.2.2.2.1
  refine ⟨fun h2 => ⟨fun h0 => ?_, fun h0 => ?_⟩, fun h2 => ?_⟩
  · rw [e10, show (2 : Int32) = nI 2 from rfl, z_eq (by omega) (by decide)] at h2
    rw [e10, show (0 : Int32) = nI 0 from rfl, z_eq (by omega) (by decide)] at h0
    exact (b2i_f (by unfold rath; rw [if_neg h0, if_pos (by omega)]; exact Bool.false_ne_true)).symm
  · rw [e10, show (0 : Int32) = nI 0 from rfl, z_eq (by omega) (by decide)] at h0
    exact (b2i_t (by unfold rath; rw [if_pos h0])).symm
  · rw [e10, show (2 : Int32) = nI 2 from rfl, z_eq (by omega) (by decide)] at h2
    obtain ⟨a1, a2⟩ := ix6 (h := h1) (t := t1) (n := 3) hh (by omega) (by decide)
    obtain ⟨a3, a4⟩ := ix6 (h := h1) (t := b1) (n := 3) hh (by omega) (by decide)
    have q1 := hht h1 t1 hh ht
    have q2 := hht h1 b1 hh hb
    rw [a2, a4, m1_le q2.2 q1.2 (by omega) (by omega)]
    refine ⟨a1, a3, ⟨fun h3 => ?_, fun h3 => ?_⟩⟩
    · exact (b2i_f (by unfold rath; rw [if_neg (by omega), if_neg (by omega), decide_eq_true_eq]; omega)).symm
    · exact (b2i_t (by unfold rath; rw [if_neg (by omega), if_neg (by omega), decide_eq_true_eq]; omega)).symm
theorem sp_X4_talesOf : Sp_X4_talesOf := by
  intro p a r T p1 σ hp
  obtain ⟨hC, ⟨hT, e11, e9, e10, hp, hpt, hht⟩, rfl, hp1⟩ := hp
  have hl := rc_le hC
  refine ⟨fun h => ?_, fun _ => ⟨z_in (by omega) (by decide), ?_⟩⟩
  · rw [b2i_0] at h; exact absurd (one_in (show (6 : Int32) = nI 6 from rfl) (by omega) (by decide)) h
  · rw [z_cl (by omega)]; exact (hp p1 hp1).2.2.2
theorem sp_X4_placeOf : Sp_X4_placeOf := by
  intro p a r T p1 σ hp
  obtain ⟨hC, ⟨hT, e11, e9, e10, hp, hpt, hht⟩, rfl, hp1⟩ := hp
  have hl := rc_le hC
  refine ⟨fun h => ?_, fun _ => ⟨z_in (by omega) (by decide), ?_⟩⟩
  · rw [b2i_0] at h; exact absurd (one_in (show (6 : Int32) = nI 6 from rfl) (by omega) (by decide)) h
  · rw [z_cl (by omega)]; exact (hp p1 hp1).2.1
theorem sp_X4_taleAt : Sp_X4_taleAt := by
  intro h a r T h1 σ hp
  obtain ⟨hN, rfl, hh⟩ := hp
  refine ⟨fun h => ?_, fun _ => ⟨z_in (by omega) (by decide), ?_⟩⟩
  · rw [b2i_0] at h; exact absurd (one_in (show (3 : Int32) = nI 3 from rfl) (by omega) (by decide)) h
  · rw [z_cl (by omega)]; exact (hN h1 hh).2
theorem sp_X4_knownAt : Sp_X4_knownAt := by
  intro h a r T h1 σ hp
  obtain ⟨hC, ⟨hT, e11, e9, e10, hp, hpt, hht⟩, rfl, hh⟩ := hp
  have hl := rc_le hC
  have key : ∀ k i, i + k = nP a → vl_X4_knownAt_4 (nI h1) σ (fun x => post_X4_knownAt (nI h1) a r T h1 σ x) (k + 1) (nI (maskB (fun t => anyB (fun p => decide (rAt r p = h1) && remB a r T p t) i) (nT a))) (nI i) := by
    intro k
    induction k with
    | zero =>
      intro i hi
      refine ⟨fun _ => ?_, fun h => absurd (by rw [rc_P hC, z_le (by omega) (by omega)]; omega) h⟩
      have : i = nP a := by omega
      rw [this]; exact rfl
    | succ k ih =>
      intro i hi
      obtain ⟨b1, b2, b3, b4⟩ := hp i (by omega)
      rw [show vl_X4_knownAt_4 (nI h1) σ (fun x => post_X4_knownAt (nI h1) a r T h1 σ x) (k + 1 + 1) = _ from rfl]
      refine ⟨fun h => ?_, fun _ => ⟨z_in (by omega) (by decide), ⟨fun hne => ?_, fun he => ⟨z_in (by omega) (by decide), ?_⟩⟩⟩⟩
      · rw [rc_P hC, z_le (by omega) (by omega)] at h; omega
      · rw [z_cl (by omega), b2, z_eq (by omega) (by omega)] at hne
        have := ih (i + 1) (by omega)
        rw [nI_1]
        rw [maskB_c (g := fun t => anyB (fun p => decide (rAt r p = h1) && remB a r T p t) i) (fun t ht => by rw [anyB, decide_eq_false hne]; simp)] at this
        exact this
      · rw [z_cl (by omega), b2, z_eq (by omega) (by omega)] at he
        rw [z_cl (by omega), b4, nI_or, maskB_or, nI_1]
        have := ih (i + 1) (by omega)
        rw [maskB_c (g := fun t => anyB (fun p => decide (rAt r p = h1) && remB a r T p t) i || remB a r T i t) (fun t ht => by rw [anyB, decide_eq_true he]; simp)] at this
        exact this
  refine ⟨nP a + 1, ?_⟩
  have := key (nP a) 0 (by omega)
  rw [show maskB (fun t => anyB (fun p => decide (rAt r p = h1) && remB a r T p t) 0) (nT a) = 0 from by
    apply Nat.eq_of_testBit_eq; intro i; rw [maskB_bit]; simp [anyB]] at this
  exact this
theorem sp_X4_talesOfAll : Sp_X4_talesOfAll := by
  intro a r T σ hp
  obtain ⟨hC, ⟨hT, e11, e9, e10, hp, hpt, hht⟩⟩ := hp
  have hl := rc_le hC
  have key : ∀ k i, i + k = nP a → vl_X4_talesOfAll_4 σ (fun x => post_X4_talesOfAll a r T σ x) (k + 1) (nI (maskB (fun t => anyB (fun p => remB a r T p t) i) (nT a))) (nI i) := by
    intro k
    induction k with
    | zero =>
      intro i hi
      refine ⟨fun _ => ?_, fun h => absurd (by rw [rc_P hC, z_le (by omega) (by omega)]; omega) h⟩
      have : i = nP a := by omega
      rw [this]; exact rfl
    | succ k ih =>
      intro i hi
      obtain ⟨b1, b2, b3, b4⟩ := hp i (by omega)
      refine ⟨fun h => ?_, fun _ => ⟨z_in (by omega) (by decide), ?_⟩⟩
      · rw [rc_P hC, z_le (by omega) (by omega)] at h; omega
      · rw [z_cl (by omega), b4, nI_or, maskB_or, nI_1]
        have := ih (i + 1) (by omega)
        exact this
  refine ⟨nP a + 1, ?_⟩
  have := key (nP a) 0 (by omega)
  rw [show maskB (fun t => anyB (fun p => remB a r T p t) 0) (nT a) = 0 from by
    apply Nat.eq_of_testBit_eq; intro i; rw [maskB_bit]; simp [anyB]] at this
  exact this
theorem chR_le (a : AS) (r : RS) (T h n : Nat) : chR a r T h n ≤ n := by
  induction n with
  | zero => exact Nat.le_refl 0
  | succ n ih => rw [chR]; split <;> omega
theorem sp_X4_chosen : Sp_X4_chosen := by
  intro h set a r T h1 σ hp
  obtain ⟨hC, hR, ⟨rfl, hh⟩, rfl⟩ := hp
  have hl := rc_le hC
  have key : ∀ k i, i + k = nT a → vl_X4_chosen_6 (nI h1) (nI (maskB (knB a r T h1) (nT a))) σ (fun x => post_X4_chosen (nI h1) (nI (maskB (knB a r T h1) (nT a))) a r T h1 σ x) (k + 1) (ifI (chR a r T h1 i = 0) (-9) (nI (chR a r T h1 i - 1))) (nI i) := by
    intro k
    induction k with
    | zero =>
      intro i hi
      refine ⟨fun _ => ?_, fun h => absurd (by rw [rc_T hC, z_le (by omega) (by omega)]; omega) h⟩
      have : i = nT a := by omega
      rw [this]; exact rfl
    | succ k ih =>
      intro i hi
      have hcl := chR_le a r T h1 i
      have eb : fn_X8_isIn (nI i) (nI (maskB (knB a r T h1) (nT a))) = b2i (knB a r T h1 i = true) := by
        apply b2i_c
        rw [bit_s _ (maskB_lt64 _ (by omega)) i (by omega), maskB_bit]
        simp; omega
      have n9 : ∀ m, m < 100 → ¬ nI m = (-9 : Int32) := by decide +kernel
      have hnx := ih (i + 1) (by omega)
      rw [chR] at hnx
      refine ⟨fun h => ?_, fun _ => ⟨fun h => ?_, fun h => ⟨fun h9 => ?_, fun h9 => ?_⟩⟩⟩
      · rw [rc_T hC, z_le (by omega) (by omega)] at h; omega
      · rw [eb, b2i_0] at h
        rw [Bool.not_eq_true] at h
        rw [h] at hnx
        rw [nI_1]; exact hnx
      · rw [eb, b2i_0, Classical.not_not] at h
        have h0 : chR a r T h1 i = 0 := by
          by_cases e : chR a r T h1 i = 0
          · exact e
          · rw [ifI_f e] at h9; exact absurd h9 (n9 _ (by omega))
        rw [h, h0] at hnx
        rw [nI_1]; exact hnx
      · rw [eb, b2i_0, Classical.not_not] at h
        have h0 : ¬ chR a r T h1 i = 0 := fun e => h9 (ifI_t e)
        rw [ifI_f h0]
        refine ⟨a, r, T, h1, i, chR a r T h1 i - 1, ⟨hC, hR, ⟨rfl, hh⟩, ⟨rfl, by omega⟩, ⟨rfl, by omega⟩⟩, fun x hx => ⟨fun e => ?_, fun e => ?_⟩⟩
        · rw [show x = b2i (rath a r h1 i (chR a r T h1 i - 1) = true) from hx, b2i_0, Bool.not_eq_true] at e
          rw [h, e, decide_eq_false h0] at hnx
          rw [nI_1]
          rw [ifI_f] at hnx
          · exact hnx
          · exact h0
        · rw [show x = b2i (rath a r h1 i (chR a r T h1 i - 1) = true) from hx, b2i_0, Classical.not_not] at e
          rw [h, e] at hnx
          rw [nI_1]
          simp only [Bool.or_true, Bool.and_true, if_true] at hnx
          rw [ifI_f (by omega)] at hnx
          exact hnx
  exact ⟨nT a + 1, key (nT a) 0 (by omega)⟩
theorem sp_X4_isLaughedAt : Sp_X4_isLaughedAt := by
  intro t a r T t1 σ hp
  obtain ⟨hC, ⟨hT, e11, e9, e10, hp, hpt, hht⟩, h1T, rfl, ht⟩ := hp
  have hl := rc_le hC
  have hw := wf_t hC.1 ht
  have eS : rdI σ 11 = nI (T - 1) := m1_nI e11 h1T
  rw [vc_X4_isLaughedAt, eS, show (7 : Int32) = nI 7 from rfl, pk_rem (by omega) (by decide) (by decide), show (6 : Int32) = nI 6 from rfl, z_eq (by omega) (by decide)]
  refine ⟨by decide, fun h => ?_, fun h => ⟨rc_l0 hC, fun h2 => ?_, fun h2 => ?_⟩⟩
  · exact (b2i_f (by unfold lauB; rw [decide_eq_true_eq]; exact fun q => h q.2)).symm
  · rw [(rc_t hC ht).2.2.2, show (1 : Int32) = nI 1 from rfl, z_eq (by omega) (by decide)] at h2
    exact (b2i_f (by unfold lauB; rw [decide_eq_true_eq]; exact fun q => h2 q.1)).symm
  · rw [(rc_t hC ht).2.2.2, show (1 : Int32) = nI 1 from rfl, z_eq (by omega) (by decide)] at h2
    exact (b2i_t (by unfold lauB; rw [decide_eq_true_eq]; exact ⟨h2, h⟩)).symm
theorem forR_lt {a : AS} (hw : WF a) (r : RS) (T : Nat) : ∀ n, n ≤ nT a → forR a r T n < 64 := by
  intro n
  induction n with
  | zero => intro _; exact (by decide : 0 < 64)
  | succ n ih =>
    intro hn
    rw [forR]
    split
    · exact lt64_or (ih (by omega)) (pow_lt64 (wf_t hw (t := n) (by omega)).1)
    · exact ih (by omega)
theorem sp_X4_bannedDeeds : Sp_X4_bannedDeeds := by
  intro a r T σ hp
  obtain ⟨hC, hR, h1T⟩ := hp
  have hl := rc_le hC
  refine ⟨a, r, T, ⟨hC, hR⟩, ?_⟩
  rintro r4 rfl
  have key : ∀ k i, i + k = nT a → vl_X4_bannedDeeds_9 σ (nI (maskB (alB a r T) (nT a))) (fun x => post_X4_bannedDeeds a r T σ x) (k + 1) (nI (forR a r T i)) (nI i) := by
    intro k
    induction k with
    | zero =>
      intro i hi
      refine ⟨fun _ => ?_, fun h => absurd (by rw [rc_T hC, z_le (by omega) (by omega)]; omega) h⟩
      have : i = nT a := by omega
      rw [this]; exact rfl
    | succ k ih =>
      intro i hi
      have eb : fn_X8_isIn (nI i) (nI (maskB (alB a r T) (nT a))) = b2i (alB a r T i = true) := by
        apply b2i_c
        rw [bit_s _ (maskB_lt64 _ (by omega)) i (by omega), maskB_bit]
        simp; omega
      have hnx := ih (i + 1) (by omega)
      rw [forR] at hnx
      have hw := wf_t hC.1 (t := i) (by omega)
      refine ⟨fun h => ?_, fun _ => ⟨fun h => ?_, fun h => ⟨a, r, T, i, ⟨hC, hR, h1T, rfl, by omega⟩, fun x hx => ⟨fun e => ?_, fun e => ⟨rc_l0 hC, ?_⟩⟩⟩⟩⟩
      · rw [rc_T hC, z_le (by omega) (by omega)] at h; omega
      · rw [eb, b2i_0, Bool.not_eq_true] at h
        rw [h] at hnx
        rw [nI_1]; exact hnx
      · rw [eb, b2i_0, Classical.not_not] at h
        rw [show x = b2i (lauB a T i = true) from hx, b2i_0, Classical.not_not] at e
        rw [h, e] at hnx
        rw [nI_1]; exact hnx
      · rw [eb, b2i_0, Classical.not_not] at h
        rw [show x = b2i (lauB a T i = true) from hx, b2i_0, Bool.not_eq_true] at e
        rw [h, e] at hnx
        rw [(rc_t hC (t := i) (by omega)).2.2.1, sh1 _ (by omega), nI_or, nI_1]
        exact hnx
  exact ⟨nT a + 1, key (nT a) 0 (by omega)⟩
theorem sp_X4_isBanned : Sp_X4_isBanned := by
  intro d a r T d1 σ hp
  obtain ⟨hC, hR, h1T, rfl, hd⟩ := hp
  refine ⟨a, r, T, ⟨hC, hR, h1T⟩, ?_⟩
  rintro r4 rfl
  refine ⟨b2i_01 _, b2i_c ?_⟩
  rw [bit_s _ (forR_lt hC.1 r T _ (Nat.le_refl _)) d1 (by omega)]
