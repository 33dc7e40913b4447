theorem cmp_lt (x y : Int64) : (lg_cmp x y < 0) ↔ x < y := by
  unfold lg_cmp
  by_cases h : x > y
  · rw [if_pos h]; exact ⟨fun q => absurd q (by decide), fun q => absurd q (Int64.not_lt.mpr (Int64.le_of_lt h))⟩
  · rw [if_neg h]
    by_cases e : x = y
    · rw [if_pos e, e]; exact ⟨fun q => absurd q (by decide), fun q => absurd q (Int64.lt_irrefl)⟩
    · rw [if_neg e]
      refine ⟨fun _ => ?_, fun _ => by decide⟩
      have h1 : x ≤ y := Int64.not_lt.mp h
      rw [Int64.lt_iff_toInt_lt]; rw [Int64.le_iff_toInt_le] at h1
      have h2 : x.toInt ≠ y.toInt := fun z => e (Int64.toInt_inj.mp z)
      omega
theorem cmp_gt (x y : Int64) : (0 < lg_cmp x y) ↔ y < x := by
  unfold lg_cmp
  by_cases h : x > y
  · rw [if_pos h]; exact ⟨fun _ => h, fun _ => by decide⟩
  · rw [if_neg h]
    refine ⟨fun q => ?_, fun q => absurd q h⟩
    by_cases e : x = y
    · rw [if_pos e] at q; exact absurd q (by decide)
    · rw [if_neg e] at q; exact absurd q (by decide)
theorem cmp_eq (x y : Int64) : (lg_cmp x y = 0) ↔ x = y := by
  unfold lg_cmp
  by_cases h : x > y
  · rw [if_pos h]; exact ⟨fun q => absurd q (by decide), fun q => by rw [q] at h; exact absurd h (Int64.lt_irrefl)⟩
  · rw [if_neg h]
    by_cases e : x = y
    · rw [if_pos e]; exact ⟨fun _ => e, fun _ => rfl⟩
    · rw [if_neg e]; exact ⟨fun q => absurd q (by decide), fun q => absurd q e⟩
theorem cmp_le0 (x y : Int64) : (lg_cmp x y ≤ 0) ↔ x ≤ y := by
  rw [← Int32.not_lt, cmp_gt, Int64.not_lt]
theorem cmp_ge0 (x y : Int64) : (0 ≤ lg_cmp x y) ↔ y ≤ x := by
  rw [← Int32.not_lt, cmp_lt, Int64.not_lt]
theorem i64_T (x : Int32) : x.toInt64.toInt = x.toInt := Int32.toInt_toInt64 x
theorem i32_b (x : Int32) : -2147483648 ≤ x.toInt ∧ x.toInt < 2147483648 := ⟨Int32.le_toInt x, Int32.toInt_lt x⟩
theorem sub1_T (y : Int32) : (y.toInt64 - 1).toInt = y.toInt - 1 := by
  rw [Int64.toInt_sub, i64_T, show (1 : Int64).toInt = 1 from rfl]
  have := i32_b y
  exact Int.bmod_eq_of_le (by omega) (by omega)
theorem in_y (p y : Int32) : (0 ≤ p.toInt64 ∧ p.toInt64 ≤ y.toInt64 - 1) ↔ (0 ≤ p ∧ p < y) := by
  rw [Int64.le_iff_toInt_le, Int64.le_iff_toInt_le, sub1_T, i64_T, Int32.le_iff_toInt_le, Int32.lt_iff_toInt_lt, show (0 : Int64).toInt = 0 from rfl, show (0 : Int32).toInt = 0 from rfl]
  omega
theorem in_n {m : Nat} {L : Int64} {M : Int32} (hL : L.toInt = m) (hM : M.toInt = m + 1) (p : Int32) : (0 ≤ p.toInt64 ∧ p.toInt64 ≤ L) ↔ (0 ≤ p ∧ p < M) := by
  rw [Int64.le_iff_toInt_le, Int64.le_iff_toInt_le, i64_T, hL, Int32.le_iff_toInt_le, Int32.lt_iff_toInt_lt, hM, show (0 : Int64).toInt = 0 from rfl, show (0 : Int32).toInt = 0 from rfl]
  omega
theorem sp_X9_in : Sp_X9_in := by
  intro v l h
  refine ⟨fun z => ?_, fun z => ⟨fun z2 => ?_, fun z2 => ?_⟩⟩
  · rw [cmp_lt] at z; exact (b2i_f (fun q => absurd q.1 (Int64.not_le.mpr z))).symm
  · rw [cmp_gt] at z2; exact (b2i_f (fun q => absurd q.2 (Int64.not_le.mpr z2))).symm
  · rw [cmp_lt] at z; rw [cmp_gt] at z2; exact (b2i_t ⟨Int64.not_lt.mp z, Int64.not_lt.mp z2⟩).symm
theorem sp_X9_lost : Sp_X9_lost := rfl
theorem sp_X9_isIn : Sp_X9_isIn := by
  intro set k
  exact ⟨fun h => (b2i_f h).symm, fun h => (b2i_t h).symm⟩
theorem sp_X9_noDeed : Sp_X9_noDeed := by
  intro d
  have e := in_n (m := 5) (L := 5) (M := 6) rfl rfl d
  refine ⟨fun h => ?_, fun h => ?_⟩
  · rw [b2i_0, Classical.not_not, e] at h; exact (b2i_f (fun q => q h)).symm
  · rw [b2i_0, e] at h; exact (b2i_t h).symm
theorem sp_X9_noHearth : Sp_X9_noHearth := by
  intro d
  have e := in_n (m := 2) (L := 2) (M := 3) rfl rfl d
  refine ⟨fun h => ?_, fun h => ?_⟩
  · rw [b2i_0, Classical.not_not, e] at h; exact (b2i_f (fun q => q h)).symm
  · rw [b2i_0, e] at h; exact (b2i_t h).symm
theorem sp_X9_isSeason : Sp_X9_isSeason := by
  intro d
  have e := in_n (m := 39) (L := 39) (M := 40) rfl rfl d
  exact ⟨b2i_01 _, b2i_c e⟩
theorem sp_X9_noSheet : Sp_X9_noSheet := by
  intro d
  have e := in_n (m := 3) (L := 3) (M := 4) rfl rfl d
  refine ⟨fun h => ?_, fun h => ?_⟩
  · rw [b2i_0, Classical.not_not, e] at h; exact (b2i_f (fun q => q h)).symm
  · rw [b2i_0, e] at h; exact (b2i_t h).symm
theorem sp_X9_isBeyond : Sp_X9_isBeyond := by
  intro i n all
  refine ⟨fun h => ?_, fun h => ⟨fun h2 => ?_, fun h2 => ⟨fun h3 => ?_, fun h3 => ?_⟩⟩⟩
  · exact (b2i_t (Or.inl h)).symm
  · rw [cmp_lt] at h2; exact (b2i_t (Or.inr (Or.inl h2))).symm
  · rw [cmp_lt] at h2; rw [cmp_le0] at h3
    exact (b2i_f (fun q => q.elim h (fun q => q.elim h2 (Int64.not_lt.mpr h3)))).symm
  · rw [cmp_le0] at h3
    exact (b2i_t (Or.inr (Or.inr (Int64.not_le.mp h3)))).symm
theorem sp_X9_refused : Sp_X9_refused := by
  intro c σ _
  rintro σ1 rfl; exact ⟨rfl, rfl⟩
theorem sp_X9_failed : Sp_X9_failed := by
  intro c σ _
  rintro σ1 rfl; exact ⟨rfl, rfl⟩
theorem sp_X9_failedLong : Sp_X9_failedLong := by
  intro c σ _
  rintro σ1 rfl; exact ⟨rfl, rfl⟩
theorem sp_X9_traced : Sp_X9_traced := by
  intro c σ _
  rintro σ1 rfl; exact rfl
theorem sp_X9_noPerson : Sp_X9_noPerson := by
  intro p σ _
  have e := in_y p (rdI σ 1)
  refine ⟨fun h => ?_, fun h => ?_⟩
  · rw [b2i_0, Classical.not_not, e] at h; exact (b2i_f (fun q => q h)).symm
  · rw [b2i_0, e] at h; exact (b2i_t h).symm
theorem sp_X9_noTale : Sp_X9_noTale := by
  intro p σ _
  have e := in_y p (rdI σ 6)
  refine ⟨fun h => ?_, fun h => ?_⟩
  · rw [b2i_0, Classical.not_not, e] at h; exact (b2i_f (fun q => q h)).symm
  · rw [b2i_0, e] at h; exact (b2i_t h).symm
theorem sp_X9_all : Sp_X9_all := fun σ _ => rfl
theorem sp_X9_refusedFor : Sp_X9_refusedFor := by
  intro d s σ _
  refine ⟨fun h => ⟨fun h2 => ⟨fun h3 => ?_, fun h3 => ?_⟩, fun h2 => ?_⟩, fun h => ?_⟩ <;> show _ = fn_X9_refusedFor d s σ <;> unfold fn_X9_refusedFor
  · rw [b2i_0] at h; rw [b2i_0, Classical.not_not] at h2
    rw [if_neg h, if_neg (fun z => z h2), if_neg h3]
  · rw [b2i_0] at h; rw [b2i_0, Classical.not_not] at h2
    rw [if_neg h, if_neg (fun z => z h2), if_pos h3]
  · rw [b2i_0] at h; rw [b2i_0] at h2
    rw [if_neg h, if_pos h2]
  · rw [b2i_0, Classical.not_not] at h
    rw [if_pos h]
theorem shr1_s : (1 : Int32) &&& 31 = 1 := by decide
theorem sp_X9_bits : Sp_X9_bits := by
  intro set
  by_cases h : 0 < set
  · obtain ⟨n, hn, rfl⟩ := nI_of (x := set) (Int32.not_lt.mpr (Int32.le_of_lt h))
    have key : ∀ k c acc, c < 2 ^ k → acc + k < 1000 → k ≤ 31 → vl_X9_bits_4 (fun r => r = nI (acc + popF k c)) (k + 1) (nI acc) (nI c) := by
      intro k
      induction k with
      | zero =>
        intro c acc hc ha _
        have : c = 0 := by omega
        subst this
        exact ⟨fun _ => rfl, fun h => absurd (by decide) h⟩
      | succ k ih =>
        intro c acc hc ha hk
        have h31 : (2 : Nat) ^ (k + 1) ≤ 2 ^ 31 := Nat.pow_le_pow_right (by decide) hk
        refine ⟨fun h0 => ?_, fun _ => ?_⟩
        · rw [show (0 : Int32) = nI 0 from rfl, z_le (by omega) (by decide)] at h0
          have : c = 0 := by omega
          subst this
          have pz : ∀ k, popF k 0 = 0 := by
            intro k
            induction k with
            | zero => rfl
            | succ k ih => rw [popF, ih]
          show nI acc = nI (acc + popF (k + 1) 0)
          rw [pz]; rfl
        · rw [pk_andN (n := c) (m := 1) (by omega) 1 rfl, pk_shrN (by omega) (1 &&& 31) 1 rfl, nI_add, Nat.pow_one]
          have := ih (c / 2) (acc + c % 2) (by rw [Nat.pow_succ] at hc; omega) (by omega) (by omega)
          rw [show acc + c % 2 + popF k (c / 2) = acc + popF (k + 1) c from by rw [popF]; omega] at this
          exact this
    have e : fn_X9_bits (nI n) = nI (popF 31 n) := by
      unfold fn_X9_bits; rw [if_pos h]
      show nI (popF 31 (Int32.toNatClampNeg (nI n))) = _
      rw [z_cl hn]
    refine ⟨31 + 1, ?_⟩
    have := key 31 n 0 hn (by decide) (Nat.le_refl 31)
    rw [Nat.zero_add] at this
    rw [e]; exact this
  · refine ⟨1, fun _ => ?_, fun h2 => absurd (Int32.not_lt.mp h) h2⟩
    show _ = fn_X9_bits set
    unfold fn_X9_bits; rw [if_neg h]
theorem bits_s : ∀ m, m < 64 → fn_X9_bits (nI m) = nI (popc m) := by decide +kernel
theorem sp_X9_shareOf : Sp_X9_shareOf := by
  intro up down which u d σ hp
  obtain ⟨rfl, rfl, hd, hd64, hu⟩ := hp
  have key : ∀ k x y, y ≤ k → x < 100 → y < 100 → 0 < Nat.gcd x y → Nat.gcd x y = Nat.gcd u d → vl_X9_shareOf_6 (lN u) (lN d) which (post_X9_shareOf (lN u) (lN d) which u d σ) (k + 1) (lN x) (lN y) := by
    intro k
    induction k with
    | zero =>
      intro x y hy hx hy2 hg hge
      have : y = 0 := Nat.le_zero.mp hy
      subst this
      rw [Nat.gcd_zero_right] at hg hge
      refine ⟨fun _ => ⟨fun b => b = if which = 0 then lN u else lN d, ⟨fun h => (if_neg h).symm, fun h => (if_pos h).symm⟩, fun b hb => ⟨?_, ?_⟩⟩, fun h => absurd ((cmp_eq _ _).mpr rfl) h⟩
      · rw [show (0 : Int64) = lN 0 from rfl, pk_lEQ (by omega) (by decide)]; omega
      · rw [show b = _ from hb]
        unfold post_X9_shareOf
        by_cases h : which = 0
        · rw [if_pos h, if_pos h, pk_lDiv (by omega) hg (by omega), hge]
        · rw [if_neg h, if_neg h, pk_lDiv (by omega) hg (by omega), hge]
    | succ k ih =>
      intro x y hy hx hy2 hg hge
      by_cases h0 : y = 0
      · subst h0
        rw [Nat.gcd_zero_right] at hg hge
        refine ⟨fun _ => ⟨fun b => b = if which = 0 then lN u else lN d, ⟨fun h => (if_neg h).symm, fun h => (if_pos h).symm⟩, fun b hb => ⟨?_, ?_⟩⟩, fun h => absurd ((cmp_eq _ _).mpr rfl) h⟩
        · rw [show (0 : Int64) = lN 0 from rfl, pk_lEQ (by omega) (by decide)]; omega
        · rw [show b = _ from hb]
          unfold post_X9_shareOf
          by_cases h : which = 0
          · rw [if_pos h, if_pos h, pk_lDiv (by omega) hg (by omega), hge]
          · rw [if_neg h, if_neg h, pk_lDiv (by omega) hg (by omega), hge]
      · have hy0 : ¬ lN y = 0 := by rw [show (0 : Int64) = lN 0 from rfl, pk_lEQ (by omega) (by decide)]; exact h0
        refine ⟨fun h => absurd ((cmp_eq _ _).mp h) hy0, fun _ => ⟨hy0, ?_⟩⟩
        rw [pk_lRem (by omega) (by omega) (by omega)]
        have hm : x % y < y := Nat.mod_lt _ (by omega)
        have hg2 : Nat.gcd y (x % y) = Nat.gcd x y := by rw [Nat.gcd_comm y, ← Nat.gcd_rec y x, Nat.gcd_comm]
        exact ih y (x % y) (by omega) (by omega) (by omega) (by rw [hg2]; exact hg) (by rw [hg2]; exact hge)
  exact ⟨d + 1, key d u d (Nat.le_refl d) (by omega) (by omega) (Nat.gcd_pos_of_pos_right _ hd) rfl⟩
