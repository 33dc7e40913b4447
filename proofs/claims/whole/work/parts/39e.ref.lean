theorem go1 {P : Nat} (hP : P < 6) (c : Int32) : goesP (nI (4 * P + 1)) c = (c = 59) := by
  have : P = 0 ∨ P = 1 ∨ P = 2 ∨ P = 3 ∨ P = 4 ∨ P = 5 := by omega
  rcases this with rfl | rfl | rfl | rfl | rfl | rfl <;> (show (if _ then _ else _) = _; rw [if_neg (by decide), if_neg (by decide), if_pos (by decide)])
theorem go2 {P : Nat} (hP : P < 6) (c : Int32) : goesP (nI (4 * P + 2)) c = (c = 104 ∨ c = 98 ∨ c = 103) := by
  have : P = 0 ∨ P = 1 ∨ P = 2 ∨ P = 3 ∨ P = 4 ∨ P = 5 := by omega
  rcases this with rfl | rfl | rfl | rfl | rfl | rfl <;> (show (if _ then _ else _) = _; rw [if_neg (by decide), if_neg (by decide), if_neg (by decide), if_pos (by decide)])
theorem go3 {P : Nat} (hP : P < 6) (c : Int32) : goesP (nI (4 * P + 3)) c = (49 ≤ c ∧ c ≤ 53) := by
  have : P = 0 ∨ P = 1 ∨ P = 2 ∨ P = 3 ∨ P = 4 ∨ P = 5 := by omega
  rcases this with rfl | rfl | rfl | rfl | rfl | rfl <;> (show (if _ then _ else _) = _; rw [if_neg (by decide), if_neg (by decide), if_neg (by decide), if_neg (by decide), if_pos (by decide)])
theorem go4 {P : Nat} (hP : P < 6) (c : Int32) : goesP (nI (4 * P + 4)) c = (48 ≤ c ∧ c ≤ 50) := by
  have : P = 0 ∨ P = 1 ∨ P = 2 ∨ P = 3 ∨ P = 4 ∨ P = 5 := by omega
  rcases this with rfl | rfl | rfl | rfl | rfl | rfl <;> (show (if _ then _ else _) = _; rw [if_neg (by decide), if_neg (by decide), if_neg (by decide), if_neg (by decide), if_neg (by decide)])
theorem go25 (c : Int32) : goesP (nI 25) c = False := by
  show (if _ then _ else _) = _; rw [if_neg (by decide), if_pos (by decide)]
theorem rng {l h : Nat} (hl : l < 10) (hh : h < 10) {c : Int32} (h2 : nI (48 + l) ≤ c ∧ c ≤ nI (48 + h)) : ∃ v : Nat, l ≤ v ∧ v ≤ h ∧ c = nI (48 + v) := by
  have e : 0 ≤ c.toInt := by
    have := h2.1
    rw [Int32.le_iff_toInt_le, nI_T (by omega)] at this; omega
  obtain ⟨n, hn, rfl, -⟩ := nI_ofT e
  rw [z_le (by omega) hn, z_le hn (by omega)] at h2
  exact ⟨n - 48, by omega, by omega, by rw [show 48 + (n - 48) = n by omega]⟩
/-- what the reader stands on -/
theorem rp_fig {fr n lo hi r : Int32} {F N R l h : Nat} {σ0 σ : S_} (hr : rdrOK fr n F N R σ0) (hh : h ≤ 9) (hl : l ≤ 9) (hp : post_X9_figure fr n lo hi F N R l h σ0 r σ) : (∃ v : Nat, R < N ∧ l ≤ v ∧ v ≤ h ∧ rdA σ0 26 (F + R) = nI (48 + v) ∧ r = nI v ∧ 0 ≤ r ∧ rdrOK fr n F N (R + 1) σ ∧ σ = wrI σ0 4 (nI (R + 1))) ∨ ((R < N → ¬ (nI (48 + l) ≤ rdA σ0 26 (F + R) ∧ rdA σ0 26 (F + R) ≤ nI (48 + h))) ∧ r = -9 ∧ ¬ 0 ≤ r ∧ σ = wrI σ0 4 (nI R)) := by
  obtain ⟨r1, r2, r3, r4, r5⟩ := hr
  rcases hp with ⟨v, h1, h2, h3, h4, h5, h6⟩ | ⟨h1, h2, h3⟩
  · refine Or.inl ⟨v, h1, h2, h3, h4, h5, ?_, ⟨r1, r2, r3, ?_, h1⟩, h6⟩
    · rw [h5, show (0 : Int32) = nI 0 from rfl, z_le (by decide) (by omega)]; omega
    · rw [h6, rI_same]
  · refine Or.inr ⟨fun hRN z => ?_, h2, by rw [h2]; decide, h3⟩
    obtain ⟨v, q1, q2, q3⟩ := rng (by omega) (by omega) z
    exact h1 v q1 q2 (by unfold cdR; rw [if_pos hRN]; exact q3)
def RpT (fr_ n_ r10 : Int32) (σ11 : S_) (Q : Int32 → S_ → Prop) : Prop := ∃ g13 : Nat, ∃ g14 : Nat, ∃ g15 : Nat, ∃ g16 : Nat, ∃ g17 : Nat, (pre_X9_figure fr_ n_ 1 5 g13 g14 g15 g16 g17 σ11) ∧ (∀ (r19 : Int32) (σ18 : S_), post_X9_figure fr_ n_ 1 5 g13 g14 g15 g16 g17 σ11 r19 σ18 → (((0 ≤ r19) → ∃ g20 : Nat, ∃ g21 : Nat, ∃ g22 : Nat, ∃ g23 : Nat, ∃ g24 : Nat, (pre_X9_figure fr_ n_ 0 2 g20 g21 g22 g23 g24 σ18) ∧ (∀ (r26 : Int32) (σ25 : S_), post_X9_figure fr_ n_ 0 2 g20 g21 g22 g23 g24 σ18 r26 σ25 → (((0 ≤ r26) → ∃ P27 : Int32 → Prop, (((¬ r10 = 104) → ((¬ r10 = 98) → P27 2) ∧ ((r10 = 98) → P27 1)) ∧ ((r10 = 104) → P27 0)) ∧ (∀ b29 : Int32, P27 b29 → ((vp_in (rdI σ25 5) 6) ∧ (∀ σ32 : S_, σ32 = wr2 σ25 4 (Int32.toNatClampNeg (rdI σ25 5)) b29 → ((vp_in (rdI σ32 5) 6) ∧ (∀ σ34 : S_, σ34 = wr2 σ32 5 (Int32.toNatClampNeg (rdI σ32 5)) r19 → ((vp_in (rdI σ34 5) 6) ∧ (∀ σ36 : S_, σ36 = wr2 σ34 6 (Int32.toNatClampNeg (rdI σ34 5)) r26 → (∀ σ38 : S_, σ38 = wrI σ36 5 ((rdI σ36 5) + 1) → (Q 1 σ38)))))))))) ∧ ((¬ 0 ≤ r26) → Q 0 σ25)))) ∧ ((¬ 0 ≤ r19) → ((0 ≤ ((-9) : Int32)) → ∃ P41 : Int32 → Prop, (((¬ r10 = 104) → ((¬ r10 = 98) → P41 2) ∧ ((r10 = 98) → P41 1)) ∧ ((r10 = 104) → P41 0)) ∧ (∀ b43 : Int32, P41 b43 → ((vp_in (rdI σ18 5) 6) ∧ (∀ σ46 : S_, σ46 = wr2 σ18 4 (Int32.toNatClampNeg (rdI σ18 5)) b43 → ((vp_in (rdI σ46 5) 6) ∧ (∀ σ48 : S_, σ48 = wr2 σ46 5 (Int32.toNatClampNeg (rdI σ46 5)) r19 → ((vp_in (rdI σ48 5) 6) ∧ (∀ σ50 : S_, σ50 = wr2 σ48 6 (Int32.toNatClampNeg (rdI σ48 5)) (-9) → (∀ σ52 : S_, σ52 = wrI σ50 5 ((rdI σ50 5) + 1) → (Q 1 σ52)))))))))) ∧ ((¬ 0 ≤ ((-9) : Int32)) → Q 0 σ18))))
theorem goN_t {c : Nat → Int32} {i : Nat} (h : goesP (nI i) (c i)) : goN c i = true := decide_eq_true h
theorem goN_f {c : Nat → Int32} {i : Nat} (h : ¬ goesP (nI i) (c i)) : goN c i = false := decide_eq_false h
theorem rp_tail {fr n r10 : Int32} {F N P k : Nat} {σ0 : S_} (hp : pre_X9_readsPerson fr n F N P σ0) (hP : P < 6) (hN : 4 * P + 3 ≤ N) (h1 : rdA σ0 26 (F + (4 * P + 1)) = 59) (h2 : rdA σ0 26 (F + (4 * P + 2)) = r10) (hk : k < 3) (hr10 : r10 = (if k = 0 then 104 else if k = 1 then 98 else 103)) : RpT fr n r10 (wrI (wrI σ0 4 (nI (4 * P + 2))) 4 (nI (4 * P + 3))) (post_X9_readsPerson fr n F N P σ0) := by
  obtain ⟨⟨e1, e2, e3, e4, e5⟩, hN60, a1, a2, a3, a4, a5⟩ := hp
  have hr : rdrOK fr n F N (4 * P + 3) (wrI (wrI σ0 4 (nI (4 * P + 2))) 4 (nI (4 * P + 3))) := ⟨e1, e2, e3, rI_same _ _ _, hN⟩
  have hall3 : ∀ i, i < 4 * P + 3 → goN (fun i => rdA σ0 26 (F + i)) i = true := by
    intro i hi
    by_cases c : i < 4 * P + 1
    · exact a3 i c
    · have : i = 4 * P + 1 ∨ i = 4 * P + 2 := by omega
      rcases this with q | q
      · rw [q]; exact goN_t (by rw [go1 hP]; exact h1)
      · rw [q]; refine goN_t ?_
        rw [go2 hP]
        show rdA σ0 26 (F + (4 * P + 2)) = 104 ∨ rdA σ0 26 (F + (4 * P + 2)) = 98 ∨ rdA σ0 26 (F + (4 * P + 2)) = 103
        rw [h2, hr10]
        have : k = 0 ∨ k = 1 ∨ k = 2 := by omega
        rcases this with rfl | rfl | rfl <;> decide
  refine ⟨F, N, 4 * P + 3, 1, 5, ⟨hr, rfl, rfl, by decide, by decide⟩, fun r19 σ18 h18 => ?_⟩
  rcases rp_fig hr (by decide) (by decide) h18 with ⟨m, m1, m2, m3, m4, m5, m6, m7, m8⟩ | ⟨m1, m2, m3, m4⟩
  · have m4' : rdA σ0 26 (F + (4 * P + 3)) = nI (48 + m) := m4
    have hall4 : ∀ i, i < 4 * P + 4 → goN (fun i => rdA σ0 26 (F + i)) i = true := by
      intro i hi
      by_cases c : i < 4 * P + 3
      · exact hall3 i c
      · have : i = 4 * P + 3 := by omega
        rw [this]; refine goN_t ?_
        rw [go3 hP]
        show 49 ≤ rdA σ0 26 (F + (4 * P + 3)) ∧ rdA σ0 26 (F + (4 * P + 3)) ≤ 53
        rw [m4', show (49 : Int32) = nI 49 from rfl, show (53 : Int32) = nI 53 from rfl, z_le (by decide) (by omega), z_le (by omega) (by decide)]
        omega
    refine ⟨fun _ => ⟨F, N, 4 * P + 4, 0, 2, ⟨m7, rfl, rfl, by decide, by decide⟩, fun r26 σ25 h25 => ?_⟩, fun z => absurd m6 z⟩
    rcases rp_fig m7 (by decide) (by decide) h25 with ⟨h, q1, q2, q3, q4, q5, q6, q7, q8⟩ | ⟨q1, q2, q3, q4⟩
    · have q4' : rdA σ0 26 (F + (4 * P + 4)) = nI (48 + h) := by rw [m8] at q4; exact q4
      have e5' : rdI σ25 5 = nI P := by rw [q8, m8]; exact a4
      have hin : vp_in (nI P) 6 := z_in (by omega) (by decide)
      have hcl : Int32.toNatClampNeg (nI P) = P := z_cl (by omega)
      have hall5 : ∀ i, i < 4 * (P + 1) + 1 → goN (fun i => rdA σ0 26 (F + i)) i = true := by
        intro i hi
        by_cases c : i < 4 * P + 4
        · exact hall4 i c
        · have : i = 4 * P + 4 := by omega
          rw [this]; refine goN_t ?_
          rw [go4 hP]
          show 48 ≤ rdA σ0 26 (F + (4 * P + 4)) ∧ rdA σ0 26 (F + (4 * P + 4)) ≤ 50
          rw [q4', show (48 : Int32) = nI 48 from rfl, show (50 : Int32) = nI 50 from rfl, z_le (by decide) (by omega), z_le (by omega) (by decide)]
          omega
      refine ⟨fun _ => ⟨fun b => b = nI k, ⟨fun z => ⟨fun z2 => ?_, fun z2 => ?_⟩, fun z => ?_⟩, fun b hb => ?_⟩, fun z => absurd q6 z⟩
      · show (2 : Int32) = nI k
        have : k = 2 := by
          by_cases c0 : k = 0
          · rw [if_pos c0] at hr10; exact absurd hr10 z
          · by_cases c1 : k = 1
            · rw [if_neg c0, if_pos c1] at hr10; exact absurd hr10 z2
            · omega
        rw [this]; rfl
      · show (1 : Int32) = nI k
        have : k = 1 := by
          by_cases c0 : k = 0
          · rw [if_pos c0] at hr10; exact absurd hr10 z
          · by_cases c1 : k = 1
            · exact c1
            · rw [if_neg c0, if_neg c1, z2] at hr10; exact absurd hr10 (by decide)
        rw [this]; rfl
      · show (0 : Int32) = nI k
        have : k = 0 := by
          by_cases c0 : k = 0
          · exact c0
          · by_cases c1 : k = 1
            · rw [if_neg c0, if_pos c1, z] at hr10; exact absurd hr10 (by decide)
            · rw [if_neg c0, if_neg c1, z] at hr10; exact absurd hr10 (by decide)
        rw [this]; rfl
      · rw [show b = nI k from hb, e5', hcl]
        refine ⟨hin, ?_⟩
        rintro σ32 rfl
        rw [rI_w2, e5', hcl]
        refine ⟨hin, ?_⟩
        rintro σ34 rfl
        rw [rI_w2, rI_w2, e5', hcl]
        refine ⟨hin, ?_⟩
        rintro σ36 rfl
        rintro σ38 rfl
        rw [rI_w2, rI_w2, rI_w2, e5', nI_1, m5, q5, q8, m8]
        have hrows : ∀ p, (rdA (wrI (wr2 (wr2 (wr2 (wrI (wrI (wrI (wrI σ0 4 (nI (4 * P + 2))) 4 (nI (4 * P + 3))) 4 (nI (4 * P + 3 + 1))) 4 (nI (4 * P + 4 + 1))) 4 P (nI k)) 5 P (nI m)) 6 P (nI h)) 5 (nI (P + 1))) 4 p = if p = P then nI k else rdA σ0 4 p) ∧ (rdA (wrI (wr2 (wr2 (wr2 (wrI (wrI (wrI (wrI σ0 4 (nI (4 * P + 2))) 4 (nI (4 * P + 3))) 4 (nI (4 * P + 3 + 1))) 4 (nI (4 * P + 4 + 1))) 4 P (nI k)) 5 P (nI m)) 6 P (nI h)) 5 (nI (P + 1))) 5 p = if p = P then nI m else rdA σ0 5 p) ∧ (rdA (wrI (wr2 (wr2 (wr2 (wrI (wrI (wrI (wrI σ0 4 (nI (4 * P + 2))) 4 (nI (4 * P + 3))) 4 (nI (4 * P + 3 + 1))) 4 (nI (4 * P + 4 + 1))) 4 P (nI k)) 5 P (nI m)) 6 P (nI h)) 5 (nI (P + 1))) 6 p = if p = P then nI h else rdA σ0 6 p) := by
          intro p
          refine ⟨?_, ?_, ?_⟩
          · rw [rA_wI, rA_w2n _ _ _ _ _ (by decide), rA_w2n _ _ _ _ _ (by decide), rA_w2s]; rfl
          · rw [rA_wI, rA_w2n _ _ _ _ _ (by decide), rA_w2s, rA_w2n _ _ _ _ _ (by decide)]; rfl
          · rw [rA_wI, rA_w2s, rA_w2n _ _ _ _ _ (by decide), rA_w2n _ _ _ _ _ (by decide)]; rfl
        have h26 : rdA (wrI (wr2 (wr2 (wr2 (wrI (wrI (wrI (wrI σ0 4 (nI (4 * P + 2))) 4 (nI (4 * P + 3))) 4 (nI (4 * P + 3 + 1))) 4 (nI (4 * P + 4 + 1))) 4 P (nI k)) 5 P (nI m)) 6 P (nI h)) 5 (nI (P + 1))) 26 = rdA σ0 26 := by
          rw [rA_wI, rA_w2n _ _ _ _ _ (by decide), rA_w2n _ _ _ _ _ (by decide), rA_w2n _ _ _ _ _ (by decide)]; rfl
        refine ⟨⟨fun x hx hx2 => ?_, fun j hj => ?_⟩, Or.inl ⟨rfl, ⟨by omega, by omega, ?_, rfl, ?_⟩, ?_⟩⟩
        · rw [rI_ne _ _ hx2, rI_w2, rI_w2, rI_w2, rI_ne _ _ hx, rI_ne _ _ hx, rI_ne _ _ hx, rI_ne _ _ hx]
        · rw [rA_wI, rA_w2n _ _ _ _ _ (by omega), rA_w2n _ _ _ _ _ (by omega), rA_w2n _ _ _ _ _ (by omega)]; rfl
        · rw [h26]; exact hall5
        · intro p hp'
          rw [h26, (hrows p).1, (hrows p).2.1, (hrows p).2.2]
          by_cases c : p = P
          · rw [if_pos c, if_pos c, if_pos c, c]
            refine ⟨k, m, h, hk, m2, m3, by omega, ?_, ?_, ?_, rfl, rfl, rfl⟩
            · rw [Nat.add_assoc, h2]; exact hr10
            · rw [Nat.add_assoc]; exact m4'
            · rw [Nat.add_assoc]; exact q4'
          · rw [if_neg c, if_neg c, if_neg c]; exact a5 p (by omega)
        · rw [rI_ne _ _ (by decide), rI_w2, rI_w2, rI_w2, rI_same, show 4 * P + 4 + 1 = 4 * (P + 1) + 1 by omega]
    · refine ⟨fun z => absurd z q3, fun _ => ?_⟩
      rw [q4, m8]
      refine ⟨⟨fun x hx hx2 => by rw [rI_ne _ _ hx, rI_ne _ _ hx, rI_ne _ _ hx, rI_ne _ _ hx], fun j hj => rfl⟩, Or.inr ⟨rfl, 4 * P + 4, rI_same _ _ _, by omega, by omega, by omega, hall4, fun hRN => goN_f ?_⟩⟩
      rw [go4 hP]
      rw [m8] at q1
      exact q1 hRN
  · refine ⟨fun z => absurd z m3, fun _ => ⟨fun z => absurd z (by decide), fun _ => ?_⟩⟩
    rw [m4]
    refine ⟨⟨fun x hx hx2 => by rw [rI_ne _ _ hx, rI_ne _ _ hx, rI_ne _ _ hx], fun j hj => rfl⟩, Or.inr ⟨rfl, 4 * P + 3, rI_same _ _ _, by omega, by omega, by omega, hall3, fun hRN => goN_f ?_⟩⟩
    rw [go3 hP]
    exact m1 hRN
