theorem sp_X2_memory : Sp_X2_memory := by
  intro q σ hp
  exact ⟨hp, rfl⟩
theorem sp_X0_memory : Sp_X0_memory := by
  intro q σ hp
  exact ⟨hp, rfl⟩
theorem sp_X1_memory : Sp_X1_memory := by
  intro q σ hp
  exact ⟨hp, rfl⟩
theorem sp_X2_herderTelling : Sp_X2_herderTelling := by
  intro q σ hp
  rintro σ1 rfl
  exact ⟨rfl, hp, rfl, rfl⟩
theorem sp_X2_telling : Sp_X2_telling := by
  intro q σ hp
  exact ⟨hp, fun r σ1 h => h⟩
theorem sp_X0_telling : Sp_X0_telling := by
  intro q σ hp
  rintro σ1 rfl
  refine ⟨rfl, hp, ?_⟩
  rintro r σ2 ⟨rfl, rfl⟩
  exact ⟨rfl, rfl⟩
theorem sp_X1_telling : Sp_X1_telling := by
  intro q σ hp
  rintro σ1 rfl
  refine ⟨rfl, hp, ?_⟩
  rintro r σ2 ⟨rfl, rfl⟩
  refine ⟨rfl, hp, ?_⟩
  rintro r2 σ3 ⟨rfl, rfl⟩
  exact ⟨rfl, rfl⟩
theorem sp_X2_greeting : Sp_X2_greeting := by
  intro q σ hp
  rintro σ1 rfl
  exact ⟨rfl, hp, rfl, rfl⟩
theorem sp_X1_greeting : Sp_X1_greeting := by
  intro q σ hp
  rintro σ1 rfl
  exact ⟨rfl, rfl⟩
/-! ledgers -/
theorem limN_le (j : Nat) : limN j ≤ 8 := by unfold limN; split <;> (try split) <;> (try split) <;> decide
theorem sp_X3_has : Sp_X3_has := by
  intro j k σ _
  refine ⟨fun h => ?_, fun h => ⟨fun h2 => ?_, fun h2 => ?_⟩⟩
  · exact (b2i_f (fun q => absurd q.1 (Int32.not_le.mpr h))).symm
  · exact (b2i_f (fun q => absurd q.2 (Int32.not_lt.mpr h2))).symm
  · exact (b2i_t ⟨Int32.not_lt.mp h, Int32.not_le.mp h2⟩).symm
theorem le_ix {j k c : Nat} (hk : k < limN j) (hc : c < 4) : vp_in (nI k * 4 + nI c) (4 * limN j) ∧ Int32.toNatClampNeg (nI k * 4 + nI c) = 4 * k + c := by
  have := limN_le j
  have e : nI k * 4 + nI c = nI (4 * k + c) := by rw [show (4 : Int32) = nI 4 from rfl, pk_mul, nI_add, Nat.mul_comm]
  rw [e]
  exact ⟨z_in (by omega) (by omega), z_cl (by omega)⟩
theorem sp_X3_at : Sp_X3_at := by
  intro j k col σ hp
  obtain ⟨hj, C, hC, e⟩ := hp
  have := limN_le j
  refine ⟨fun h => ?_, fun h => ⟨fun h2 => ?_, fun h2 => ?_⟩⟩
  · rw [b2i_0] at h; exact (if_neg (fun q => h q.1)).symm
  · rw [b2i_0] at h2; exact (if_neg (fun q => h2 q.2)).symm
  · rw [b2i_0, Classical.not_not] at h h2
    have hc : (0 ≤ k ∧ k < rdI σ (5 + j)) ∧ (0 ≤ col ∧ col < 4) := ⟨h, h2⟩
    obtain ⟨k1, hk, rfl⟩ := one_of e (by omega) h
    obtain ⟨c1, hc1, rfl⟩ := one_of (show (4 : Int32) = nI 4 from rfl) (by decide) h2
    obtain ⟨a1, a2⟩ := le_ix (j := j) (k := k1) (by omega) hc1
    refine ⟨a1, ?_⟩
    show _ = fn_X3_at j (nI k1) (nI c1) σ
    unfold fn_X3_at
    rw [if_pos hc, a2]
    show _ = rdA σ (4 + j) (4 * Int32.toNatClampNeg _ + Int32.toNatClampNeg _)
    rw [z_cl (by omega), z_cl (by omega)]
theorem sp_X3_set : Sp_X3_set := by
  intro j k col v σ hp
  obtain ⟨hj, C, hC, e⟩ := hp
  have := limN_le j
  refine ⟨fun h => ?_, fun h => ⟨fun h2 => ?_, fun h2 => ?_⟩⟩
  · rw [b2i_0] at h; exact (if_neg (fun q => h q.1)).symm
  · rw [b2i_0] at h2; exact (if_neg (fun q => h2 q.2)).symm
  · rw [b2i_0, Classical.not_not] at h h2
    have hc : (0 ≤ k ∧ k < rdI σ (5 + j)) ∧ (0 ≤ col ∧ col < 4) := ⟨h, h2⟩
    obtain ⟨k1, hk, rfl⟩ := one_of e (by omega) h
    obtain ⟨c1, hc1, rfl⟩ := one_of (show (4 : Int32) = nI 4 from rfl) (by decide) h2
    obtain ⟨a1, a2⟩ := le_ix (j := j) (k := k1) (by omega) hc1
    refine ⟨a1, ?_⟩
    rintro σ1 rfl
    show _ = _
    rw [if_pos hc, a2]
    show _ = wr2 σ (4 + j) (4 * Int32.toNatClampNeg _ + Int32.toNatClampNeg _) v
    rw [z_cl (by omega), z_cl (by omega)]
/-- a row's place is set -/
theorem set_is {j k c : Nat} {C : Nat} {v : Int32} {σ σ' : S_} (e : rdI σ (5 + j) = nI C) (hC : C ≤ 8) (hk : k < C) (hc : c < 4) (h : post_X3_set j (nI k) (nI c) v σ σ') : σ' = wr2 σ (4 + j) (4 * k + c) v := by
  unfold post_X3_set at h
  rw [if_pos ⟨one_in e hk (by omega), one_in (show (4 : Int32) = nI 4 from rfl) hc (by decide)⟩] at h
  rw [h]
  show wr2 σ (4 + j) (4 * Int32.toNatClampNeg _ + Int32.toNatClampNeg _) v = _
  rw [z_cl (by omega), z_cl (by omega)]
theorem at_is {j k c : Nat} {C : Nat} {σ : S_} (e : rdI σ (5 + j) = nI C) (hC : C ≤ 8) (hk : k < C) (hc : c < 4) : fn_X3_at j (nI k) (nI c) σ = rdA σ (4 + j) (4 * k + c) := by
  unfold fn_X3_at
  rw [if_pos ⟨one_in e hk (by omega), one_in (show (4 : Int32) = nI 4 from rfl) hc (by decide)⟩]
  show rdA σ (4 + j) (4 * Int32.toNatClampNeg _ + Int32.toNatClampNeg _) = _
  rw [z_cl (by omega), z_cl (by omega)]
theorem sp_X3_add : Sp_X3_add := by
  intro j c0 c1 c2 c3 σ hp
  obtain ⟨hj, C, hC, e⟩ := hp
  have hl := limN_le j
  refine ⟨fun h => ?_, fun h => ?_⟩
  · rw [e, z_lt (by omega) (by omega)] at h
    rintro σ1 rfl
    have e1 : rdI (wrI σ (5 + j) (rdI σ (5 + j) + 1)) (5 + j) = nI (C + 1) := by rw [rI_same, e, nI_1]
    have em : nI (C + 1) - 1 = nI C := nI_pred C
    rw [e1, em, e, nI_1]
    have e1 : rdI (wrI σ (5 + j) (nI (C + 1))) (5 + j) = nI (C + 1) := rI_same _ _ _
    refine ⟨⟨hj, C + 1, h, e1⟩, fun σ3 h3 => ?_⟩
    have h3 := set_is (c := 0) e1 (by omega) (Nat.lt_succ_self C) (by decide) h3
    have e3 : rdI σ3 (5 + j) = nI (C + 1) := by rw [h3, rI_w2]; exact e1
    rw [e3, em]
    refine ⟨⟨hj, C + 1, h, e3⟩, fun σ4 h4 => ?_⟩
    have h4 := set_is (c := 1) e3 (by omega) (Nat.lt_succ_self C) (by decide) h4
    have e4 : rdI σ4 (5 + j) = nI (C + 1) := by rw [h4, rI_w2]; exact e3
    rw [e4, em]
    refine ⟨⟨hj, C + 1, h, e4⟩, fun σ5 h5 => ?_⟩
    have h5 := set_is (c := 2) e4 (by omega) (Nat.lt_succ_self C) (by decide) h5
    have e5 : rdI σ5 (5 + j) = nI (C + 1) := by rw [h5, rI_w2]; exact e4
    rw [e5, em]
    refine ⟨⟨hj, C + 1, h, e5⟩, fun σ6 h6 => ?_⟩
    have h6 := set_is (c := 3) e5 (by omega) (Nat.lt_succ_self C) (by decide) h6
    have e6 : rdI σ6 (5 + j) = nI (C + 1) := by rw [h6, rI_w2]; exact e5
    rw [e6, em]
    refine ⟨C, hC, e, Or.inr ⟨h, rfl, ?_⟩⟩
    rw [h6, h5, h4, h3]; rfl
  · rw [e, z_lt (by omega) (by omega)] at h
    exact ⟨C, hC, e, Or.inl ⟨by omega, rfl, rfl⟩⟩
theorem sp_X3_takeBack : Sp_X3_takeBack := by
  intro j k σ _
  refine ⟨fun h => ?_, fun h => ⟨fun h2 => ?_, fun h2 => ?_⟩⟩
  · show post_X3_takeBack j k σ _ _
    unfold post_X3_takeBack; rw [if_pos (Or.inl h)]; exact ⟨rfl, rfl⟩
  · rintro σ1 rfl
    show post_X3_takeBack j k σ _ _
    unfold post_X3_takeBack; rw [if_neg (fun q => q.elim h (Int32.not_lt.mpr h2))]
    exact ⟨by rw [rI_same], rfl⟩
  · show post_X3_takeBack j k σ _ _
    unfold post_X3_takeBack; rw [if_pos (Or.inr (Int32.not_le.mp h2))]; exact ⟨rfl, rfl⟩
theorem sp_X3_clear : Sp_X3_clear := by
  intro j σ _
  rintro σ1 rfl; exact rfl
