theorem sp_X3_keepBelow : Sp_X3_keepBelow := by
  intro j col bound c1 σ0 hp
  obtain ⟨⟨hj, C, hC, e⟩, rfl, hc1⟩ := hp
  have hl := limN_le j
  have kl : ∀ (P : Nat → Bool) n, (keptL P n).length ≤ n := by
    intro P n
    induction n with
    | zero => exact Nat.le_refl 0
    | succ n ih =>
      rw [keptL]
      split
      · rw [List.length_append]; exact Nat.succ_le_succ ih
      · omega
  have key : ∀ k x (σ : S_), x + k = C → rdI σ (5 + j) = nI C → (∀ i, rdI σ i = rdI σ0 i) → (∀ i, i ≠ 4 + j → rdA σ i = rdA σ0 i) → σ.2 = σ0.2 → (∀ i c, i < (keptL (keepP j bound c1 σ0) x).length → c < 4 → rdA σ (4 + j) (4 * i + c) = rdA σ0 (4 + j) (4 * (keptL (keepP j bound c1 σ0) x).getD i 0 + c)) → (∀ i, 4 * x ≤ i → rdA σ (4 + j) i = rdA σ0 (4 + j) i) → vl_X3_keepBelow_5 j (nI c1) bound (post_X3_keepBelow j (nI c1) bound c1 σ0) (k + 1) (nI (keptL (keepP j bound c1 σ0) x).length) (nI x) σ := by
    intro k
    induction k with
    | zero =>
      intro x σ hx hcount hI hA h2 hr hrest
      have hxe : x = C := by omega
      refine ⟨fun _ => ?_, fun h => absurd (by rw [hcount, z_le (by omega) (by omega)]; omega) h⟩
      rintro σ4 rfl
      refine ⟨C, hC, e, by rw [rI_same, hxe], fun i hi => by rw [rI_ne _ _ hi]; exact hI i, hA, h2, fun i c hi hc => ?_⟩
      rw [← hxe] at hi ⊢
      exact hr i c hi hc
    | succ k ih =>
      intro x σ hx hcount hI hA h2 hr hrest
      have ha := at_is (j := j) (k := x) (c := c1) hcount (by omega) (by omega) hc1
      have hP : keepP j bound c1 σ0 x = decide (rdA σ (4 + j) (4 * x + c1) < bound) := by
        unfold keepP; rw [hrest _ (by omega)]
      have hlen := kl (keepP j bound c1 σ0) x
      have eM : ∀ n, nI n * 4 = nI (4 * n) := fun n => by rw [show (4 : Int32) = nI 4 from rfl, pk_mul, Nat.mul_comm]
      refine ⟨fun h => ?_, fun _ => ⟨⟨hj, C, hC, hcount⟩, ⟨fun h => ?_, fun h => ?_⟩⟩⟩
      · rw [hcount, z_le (by omega) (by omega)] at h; omega
      · rw [ha] at h
        have hk : keptL (keepP j bound c1 σ0) (x + 1) = keptL (keepP j bound c1 σ0) x := by
          rw [keptL, hP, if_neg (by rw [decide_eq_true_eq]; exact Int32.not_lt.mpr h)]
        have := ih (x + 1) σ (by omega) hcount hI hA h2 (by rw [hk]; exact hr) (fun i hi => hrest i (by omega))
        rw [hk, ← nI_1] at this
        exact this
      · rw [ha] at h
        have hk : keptL (keepP j bound c1 σ0) (x + 1) = keptL (keepP j bound c1 σ0) x ++ [x] := by
          rw [keptL, hP, if_pos (by rw [decide_eq_true_eq]; exact Int32.not_le.mp h)]
        rw [eM, eM, z_cl (by omega), z_cl (by omega), show Int32.toNatClampNeg 4 = 4 from rfl]
        refine ⟨⟨nI_pos (by omega), nI_pos (by omega), by decide, by omega, by omega⟩, ?_⟩
        rintro σ6 rfl
        have := ih (x + 1) (wrA σ (4 + j) (va_cpy (rdA σ (4 + j)) (rdA σ (4 + j)) (4 * x) (4 * (keptL (keepP j bound c1 σ0) x).length) 4)) (by omega) hcount hI (fun i hi => by rw [rA_wA, if_neg hi]; exact hA i hi) h2 ?_ ?_
        · rw [hk, List.length_append, ← nI_1, show ([x] : List Nat).length = 1 from rfl, ← nI_1] at this
          exact this
        · intro i c hi hc
          rw [hk, List.length_append, show ([x] : List Nat).length = 1 from rfl] at hi
          rw [rA_wA, if_pos rfl, hk]
          by_cases hi2 : i < (keptL (keepP j bound c1 σ0) x).length
          · rw [pk_cpy_out (Or.inl (by omega)), hr i c hi2 hc]
            rw [List.getD_eq_getElem?_getD, List.getD_eq_getElem?_getD, List.getElem?_append_left hi2]
          · have hie : i = (keptL (keepP j bound c1 σ0) x).length := by omega
            rw [pk_cpy_in (by omega) (by omega), hrest _ (by omega), hie]
            rw [List.getD_eq_getElem?_getD, List.getElem?_append_right (Nat.le_refl _), Nat.sub_self]
            show rdA σ0 (4 + j) (4 * x + (4 * (keptL (keepP j bound c1 σ0) x).length + c - 4 * (keptL (keepP j bound c1 σ0) x).length)) = rdA σ0 (4 + j) (4 * x + c)
            rw [Nat.add_sub_cancel_left]
        · intro i hi
          rw [rA_wA, if_pos rfl, pk_cpy_out (Or.inr (by omega))]
          exact hrest i (by omega)
  exact ⟨C + 1, key C 0 σ0 (by omega) e (fun _ => rfl) (fun _ _ => rfl) rfl (fun i c hi _ => absurd hi (Nat.not_lt_zero i)) (fun _ _ => rfl)⟩
/-! the steppe -/
theorem sp_X6_isEmpty : Sp_X6_isEmpty := by
  intro σ _
  exact ⟨fun h => (b2i_f h).symm, fun h => (b2i_t h).symm⟩
theorem sp_X6_person : Sp_X6_person := by
  intro p σ hp
  obtain ⟨n, hn, e, hH, hg⟩ := hp
  refine ⟨fun h => ?_, fun h => ?_⟩
  · rw [b2i_0] at h; exact (if_neg h).symm
  · rw [b2i_0, Classical.not_not] at h
    have hc : 0 ≤ p ∧ p < rdI σ 2 := h
    obtain ⟨k, hk, rfl⟩ := one_of e (by omega) h
    refine ⟨z_in (by omega) (by decide), ?_, (if_pos hc).symm⟩
    rw [z_cl (by omega)]; exact hg k hk
theorem sp_X6_firstFault : Sp_X6_firstFault := by
  intro j fr n F N σ hp
  have hp' := hp
  obtain ⟨hf, hn, L, hL, e, hb⟩ := hp'
  generalize hc : (fun i => rdA σ j (F + i)) = cd
  have key : ∀ k x, x + k = N → (∀ y, y < x → goN cd y = true) → vl_X6_firstFault_2 j fr n σ (fun r => r = ifI (ffN cd N = N + 100) (-9) (nI (ffN cd N))) (k + 1) (nI x) := by
    intro k
    induction k with
    | zero =>
      intro x hx hall
      have hN : findF (fun i => !goN cd i) N 0 = N := findF_is (Nat.le_refl N) (fun y hy => by rw [hall y (by omega)]; rfl) (fun h => absurd h (Nat.lt_irrefl N))
      have hff : ffN cd N = if N % 4 = 1 ∧ 8 < N then N + 100 else N := by unfold ffN; rw [hN, if_neg (Nat.lt_irrefl N)]
      refine ⟨fun _ => ⟨by decide, fun b => b = b2i (N % 4 = 1 ∧ 8 < N), ⟨fun h => ?_, fun h => ⟨fun h2 => ?_, fun h2 => ?_⟩⟩, fun b hb => ⟨fun h => ?_, fun h => ?_⟩⟩, fun h => absurd (by rw [hn, z_le (by omega) (by omega)]; omega) h⟩
      · rw [hn, show (4 : Int32) = nI 4 from rfl, pk_rem (by omega) (by decide) (by decide), show (1 : Int32) = nI 1 from rfl, z_eq (by omega) (by decide)] at h
        exact (b2i_f (fun q => h q.1)).symm
      · rw [hn, show (8 : Int32) = nI 8 from rfl, z_le (by omega) (by decide)] at h2
        exact (b2i_f (fun q => by omega)).symm
      · rw [hn, show (4 : Int32) = nI 4 from rfl, pk_rem (by omega) (by decide) (by decide), show (1 : Int32) = nI 1 from rfl, z_eq (by omega) (by decide)] at h
        rw [hn, show (8 : Int32) = nI 8 from rfl, z_le (by omega) (by decide)] at h2
        exact (b2i_t ⟨h, by omega⟩).symm
      · rw [hb, b2i_0] at h
        rw [if_neg h] at hff
        rw [ifI_f (by omega), hff, hn]
      · rw [hb, b2i_0, Classical.not_not] at h
        rw [if_pos h] at hff
        rw [ifI_t hff]
    | succ k ih =>
      intro x hx hall
      obtain ⟨a1, a2, a3⟩ := at_row hp (x := x) (by omega)
      have hcd : rdA σ j (F + x) = cd x := by rw [← hc]
      rw [← nI_add, ← hf, hcd] at a2
      refine ⟨fun h => ?_, fun _ => ⟨a1, ⟨fun h => ?_, fun h => ?_⟩⟩⟩
      · rw [hn, z_le (by omega) (by omega)] at h; omega
      · rw [nI_1]
        refine ih (x + 1) (by omega) (fun y hy => ?_)
        by_cases e1 : y = x
        · rw [a2, b2i_0, Classical.not_not] at h; rw [e1]; exact decide_eq_true h
        · exact hall y (by omega)
      · rw [a2, b2i_0] at h
        have hx2 : findF (fun i => !goN cd i) N 0 = x := findF_is (by omega) (fun y hy => by rw [hall y hy]; rfl) (fun _ => by unfold goN; rw [decide_eq_false h]; rfl)
        have hff : ffN cd N = x := by unfold ffN; rw [hx2, if_pos (by omega)]
        rw [hff, ifI_f (by omega)]
  have h := key N 0 (by omega) (fun y hy => absurd hy (Nat.not_lt_zero y))
  refine ⟨N + 1, ?_⟩
  show vl_X6_firstFault_2 j fr n σ (fun r => r = ifI (ffN (fun i => rdA σ j (F + i)) N = N + 100) (-9) (nI (ffN (fun i => rdA σ j (F + i)) N))) (N + 1) 0
  rw [hc]; exact h
