/-! sheets -/
theorem sp_X8_isOneOf : Sp_X8_isOneOf := by
  intro x n
  refine ⟨fun h => ?_, fun h => ⟨fun h2 => ?_, fun h2 => ?_⟩⟩
  · exact (b2i_f (fun q => absurd q.1 (Int32.not_le.mpr h))).symm
  · exact (b2i_f (fun q => absurd q.2 (Int32.not_lt.mpr h2))).symm
  · exact (b2i_t ⟨Int32.not_lt.mp h, Int32.not_le.mp h2⟩).symm
theorem sp_X8_isIn : Sp_X8_isIn := by
  intro k set
  refine ⟨fun h => ?_, fun h => ?_⟩
  · exact (b2i_f h).symm
  · exact (b2i_t h).symm
theorem sp_X6_goesOn : Sp_X6_goesOn := by
  intro place code
  refine ⟨fun h => ⟨fun h1 => ⟨by decide, ?_⟩, fun h1 => ?_⟩, fun h => ⟨fun h1 => ?_, fun h1 => ?_⟩⟩
  · have h24 : ¬ 24 < place := Int32.not_lt.mpr h1
    refine ⟨fun e1 => ⟨fun h2 => ?_, fun h2 => ?_⟩, fun e1 => ⟨fun e2 => ⟨fun h2 => ?_, fun h2 => ⟨fun h3 => ?_, fun h3 => ⟨fun h4 => ?_, fun h4 => ?_⟩⟩⟩, fun e2 => ⟨fun e3 => ⟨fun h2 => ?_, fun h2 => ⟨fun h3 => ?_, fun h3 => ?_⟩⟩, fun e3 => ⟨fun h2 => ?_, fun h2 => ⟨fun h3 => ?_, fun h3 => ?_⟩⟩⟩⟩⟩
    · exact (b2i_f (by simp only [goesP, if_neg h, if_neg h24, if_pos e1]; exact h2)).symm
    · exact (b2i_t (by simp only [goesP, if_neg h, if_neg h24, if_pos e1]; exact h2)).symm
    · exact (b2i_t (by simp only [goesP, if_neg h, if_neg h24, if_neg e1, if_pos e2]; exact Or.inl h2)).symm
    · exact (b2i_t (by simp only [goesP, if_neg h, if_neg h24, if_neg e1, if_pos e2]; exact Or.inr (Or.inl h3))).symm
    · exact (b2i_f (by simp only [goesP, if_neg h, if_neg h24, if_neg e1, if_pos e2]; exact fun q => q.elim h2 (fun q => q.elim h3 h4))).symm
    · exact (b2i_t (by simp only [goesP, if_neg h, if_neg h24, if_neg e1, if_pos e2]; exact Or.inr (Or.inr h4))).symm
    · exact (b2i_f (by simp only [goesP, if_neg h, if_neg h24, if_neg e1, if_neg e2, if_pos e3]; exact fun q => absurd q.1 (Int32.not_le.mpr h2))).symm
    · exact (b2i_f (by simp only [goesP, if_neg h, if_neg h24, if_neg e1, if_neg e2, if_pos e3]; exact fun q => absurd q.2 (Int32.not_le.mpr h3))).symm
    · exact (b2i_t (by simp only [goesP, if_neg h, if_neg h24, if_neg e1, if_neg e2, if_pos e3]; exact ⟨Int32.not_lt.mp h2, Int32.not_lt.mp h3⟩)).symm
    · exact (b2i_f (by simp only [goesP, if_neg h, if_neg h24, if_neg e1, if_neg e2, if_neg e3]; exact fun q => absurd q.1 (Int32.not_le.mpr h2))).symm
    · exact (b2i_f (by simp only [goesP, if_neg h, if_neg h24, if_neg e1, if_neg e2, if_neg e3]; exact fun q => absurd q.2 (Int32.not_le.mpr h3))).symm
    · exact (b2i_t (by simp only [goesP, if_neg h, if_neg h24, if_neg e1, if_neg e2, if_neg e3]; exact ⟨Int32.not_lt.mp h2, Int32.not_lt.mp h3⟩)).symm
  · exact (b2i_f (by simp only [goesP, if_neg h, if_pos (Int32.not_le.mp h1)]; exact id)).symm
  · exact (b2i_f (by simp only [goesP, if_pos h]; exact h1)).symm
  · exact (b2i_t (by simp only [goesP, if_pos h]; exact h1)).symm
theorem sp_X5_hasNothing : Sp_X5_hasNothing := by
  intro j σ _
  exact ⟨fun h => (b2i_f h).symm, fun h => (b2i_t h).symm⟩
theorem sp_X5_has : Sp_X5_has := by
  intro j i σ _
  exact ⟨b2i_01 _, rfl⟩
theorem sp_X5_reaches : Sp_X5_reaches := by
  intro j i n σ _
  refine ⟨fun h => ?_, fun h => ⟨fun h2 => ?_, fun h2 => ⟨fun h3 => ?_, fun h3 => ?_⟩⟩⟩
  · exact (b2i_f (fun q => absurd q.1 (Int32.not_le.mpr h))).symm
  · exact (b2i_f (fun q => absurd q.2.1 (Int32.not_le.mpr h2))).symm
  · exact (b2i_f (fun q => absurd q.2.2 (Int32.not_le.mpr h3))).symm
  · exact (b2i_t ⟨Int32.not_lt.mp h, Int32.not_lt.mp h2, Int32.not_lt.mp h3⟩).symm
theorem sp_X5_renew : Sp_X5_renew := by
  intro j lane n σ hp
  rintro σ1 rfl σ2 rfl σ3 rfl
  show _ = _
  rw [if_neg (Int32.not_lt.mpr hp)]
  rfl
theorem sp_X5_clear : Sp_X5_clear := by
  intro j σ _
  rintro σ1 rfl σ2 rfl
  exact rfl
theorem sh_in {j : Nat} {i : Int32} {σ : S_} (hs : shOK j σ) (h : ¬ fn_X5_has j i σ = 0) : (0 ≤ i ∧ i < rdI σ (16 + j)) ∧ vp_in i 60 := by
  rw [b2i_0, Classical.not_not] at h
  obtain ⟨L, hL, e⟩ := hs
  obtain ⟨k, hk, rfl⟩ := one_of e (by omega) h
  exact ⟨h, z_in (by omega) (by omega)⟩
theorem sp_X5_at : Sp_X5_at := by
  intro j i σ hp
  refine ⟨fun h => ?_, fun h => ⟨(sh_in hp h).2, ?_⟩⟩
  · rw [b2i_0] at h; exact (if_neg h).symm
  · exact (if_pos (sh_in hp h).1).symm
theorem sp_X5_set : Sp_X5_set := by
  intro j i v σ hp
  refine ⟨fun h => ?_, fun h => ⟨(sh_in hp h).2, ?_⟩⟩
  · rw [b2i_0] at h; exact (if_neg h).symm
  · rintro σ1 rfl; exact (if_pos (sh_in hp h).1).symm
theorem sp_X5_cut : Sp_X5_cut := by
  intro j v σ _
  refine ⟨fun h => (if_pos h).symm, fun h => ⟨fun h2 => ?_, fun h2 => ?_⟩⟩
  · show _ = fn_X5_cut j v σ
    unfold fn_X5_cut; rw [if_neg h, if_pos h2]
  · show _ = fn_X5_cut j v σ
    unfold fn_X5_cut; rw [if_neg h, if_neg h2]
theorem sp_X5_faultOfTaking : Sp_X5_faultOfTaking := by
  intro j lane i n σ _
  have key : ∀ (h : fn_X5_hasNothing j σ = 0), rdI σ (12 + j) = lane → ((0 ≤ n) → (((fn_X5_reaches j i n σ) = 0) → (3 : Int32) = fn_X5_faultOfTaking j lane i n σ) ∧ ((¬ (fn_X5_reaches j i n σ) = 0) → (0 : Int32) = fn_X5_faultOfTaking j lane i n σ)) ∧ ((¬ 0 ≤ n) → (4 : Int32) = fn_X5_faultOfTaking j lane i n σ) := by
    intro h h1
    rw [b2i_0] at h
    refine ⟨fun h2 => ⟨fun h3 => ?_, fun h3 => ?_⟩, fun h2 => ?_⟩ <;> unfold fn_X5_faultOfTaking <;> rw [if_neg (fun q => q.2 h1), if_neg h]
    · rw [b2i_0] at h3; rw [if_neg (Int32.not_lt.mpr h2), if_neg h3]
    · rw [b2i_0, Classical.not_not] at h3; rw [if_neg (Int32.not_lt.mpr h2), if_pos h3]
    · rw [if_pos (Int32.not_le.mp h2)]
  refine ⟨fun h => ⟨fun h2 => absurd h2 h, fun _ => ?_⟩, fun h => ⟨fun h1 => ⟨fun _ => key h h1, fun h2 => absurd h h2⟩, fun h1 => ?_⟩⟩
  · rw [b2i_0, Classical.not_not] at h
    show _ = fn_X5_faultOfTaking j lane i n σ
    unfold fn_X5_faultOfTaking; rw [if_neg (fun q => q.1 h), if_pos h]
  · rw [b2i_0] at h
    show _ = fn_X5_faultOfTaking j lane i n σ
    unfold fn_X5_faultOfTaking; rw [if_pos ⟨h, h1⟩]
theorem at_row {j : Nat} {fr n : Int32} {F N : Nat} {σ : S_} (h : rowOK j fr n F N σ) {x : Nat} (hx : x < N) : shOK j σ ∧ fn_X5_at j (nI (F + x)) σ = rdA σ j (F + x) ∧ F + N < 2147483648 := by
  obtain ⟨-, -, L, hL, e, hb⟩ := h
  refine ⟨⟨L, hL, e⟩, ?_, by omega⟩
  unfold fn_X5_at
  rw [if_pos (one_in e (by omega) (by omega))]
  show rdA σ j (Int32.toNatClampNeg _) = _
  rw [z_cl (by omega)]
theorem sp_X5_hasOnlyBelow : Sp_X5_hasOnlyBelow := by
  intro j bound fr n F N σ hp
  have hp' := hp
  obtain ⟨hf, hn, L, hL, e, hb⟩ := hp'
  have key : ∀ k x, x + k = N → (∀ y, y < x → decide (0 ≤ rdA σ j (F + y) ∧ rdA σ j (F + y) < bound) = true) → vl_X5_hasOnlyBelow_3 j bound fr n σ (fun r => post_X5_hasOnlyBelow j bound fr n F N σ r) (k + 1) (nI (F + x)) := by
    intro k
    induction k with
    | zero =>
      intro x hx hall
      refine ⟨fun _ => ?_, fun h => absurd ?_ h⟩
      · exact (b2i_t (allB_iff.mpr (fun y hy => hall y (by omega)))).symm
      · rw [hf, hn, nI_add, z_le (by omega) (by omega)]; omega
    | succ k ih =>
      intro x hx hall
      obtain ⟨a1, a2, a3⟩ := at_row hp (x := x) (by omega)
      refine ⟨fun h => ?_, fun _ => ⟨a1, ⟨fun h => ?_, fun h => ?_⟩⟩⟩
      · rw [hf, hn, nI_add, z_le (by omega) (by omega)] at h; omega
      · rw [nI_1]
        refine ih (x + 1) (by omega) (fun y hy => ?_)
        by_cases e1 : y = x
        · rw [a2, b2i_0, Classical.not_not] at h; rw [e1]; exact decide_eq_true h
        · exact hall y (by omega)
      · rw [a2, b2i_0] at h
        exact (b2i_f (fun q => by rw [allB_no (i := x) (by omega) (decide_eq_false h)] at q; cases q)).symm
  exact ⟨N + 1, by have := key N 0 (by omega) (fun y hy => absurd hy (Nat.not_lt_zero y)); have e0 : nI (F + 0) = fr := hf.symm; rw [e0] at this; exact this⟩
/-! the trace, people -/
theorem sp_X7_leave : Sp_X7_leave := by
  intro b σ _
  rintro σ1 rfl; exact rfl
theorem sp_X0_kind : Sp_X0_kind := fun _ _ _ => rfl
theorem sp_X1_kind : Sp_X1_kind := fun _ _ _ => rfl
theorem sp_X2_kind : Sp_X2_kind := fun _ _ _ => rfl
