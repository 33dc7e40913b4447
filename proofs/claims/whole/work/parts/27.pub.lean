theorem sh_ok {a : AS} {σ : S_} (hw : WF a) (h : RC1 a σ) {k : Nat} (hk : k < 4) : shOK k σ := by
  obtain ⟨l1, l2, l3, l4, l5⟩ := lane_is hw h hk
  exact ⟨aSz a k - 1, by omega, l3⟩
theorem sp_X8_put : Sp_X8_put := by
  intro k i v a σ hp
  have hC0 : RC a σ := hp
  rintro σ1 rfl
  have hC : RC (setN a 7 0) (wrI σ 0 0) := rc_flt hC0 (Nat.zero_le 4)
  refine ⟨fun hn => ?_, fun j hj => ?_⟩
  · have := sh_no hn
    exact ⟨by unfold res_put; rw [if_pos this], by unfold nxt_put; rw [if_pos this]; exact hC⟩
  · obtain ⟨q1, rfl, q3, q4⟩ := sh_so hj
    have k1 : ¬ ¬ inR (nI j) 4 := fun z => z q1
    obtain ⟨l1, l2, l3, l4, l5⟩ := lane_is hC.1.1 hC.2.2.2 q3
    have l1' : rdI (wrI σ 0 0) (12 + j) = -1 ↔ aSz a j = 0 := l1
    have l2' : ¬ aSz a j = 0 → rdI (wrI σ 0 0) (12 + j) = nI (aLane a j) := l2
    have l3' : rdI (wrI σ 0 0) (16 + j) = nI (aSz a j - 1) := l3
    have l4' : aSz a j ≤ 61 := l4
    have l5' : aLane a j < 3 := l5
    have eh : fn_X5_has j i (wrI σ 0 0) = b2i (inR i (aSz a j - 1)) := by apply b2i_c; rw [l3']
    have flt : ∀ (x : Nat), x ≤ 4 → ∀ (r7 : Int32) (σ6 : S_), post_X8_faulted (nI x) (wrI σ 0 0) r7 σ6 → r7 = -10 - nI x ∧ RC (setN a 7 x) σ6 := by
      rintro x hx r7 σ6 ⟨h6, h7⟩
      have := rc_flt hC (v := x) hx
      rw [setN_setN] at this
      exact ⟨h6, h7 ▸ this⟩
    refine ⟨q3, fun h => ⟨fun h2 => ⟨sh_ok hC.1.1 hC.2.2.2 q3, fun σ5 h5 => ?_⟩, fun h2 r7 σ6 h6 => ?_⟩, fun h r7 σ6 h6 => ?_⟩
    · rw [b2i_0] at h
      rw [eh, b2i_0, Classical.not_not] at h2
      have c : ¬ aSz a j = 0 := fun z => h (l1'.mpr z)
      have c2 : ¬ ¬ inR i (aSz a j - 1) := fun z => z h2
      have hin : 0 ≤ i ∧ i < rdI (wrI σ 0 0) (16 + j) := by rw [l3']; exact h2
      unfold post_X5_set at h5
      rw [if_pos hin] at h5
      have ec : fn_X5_cut j v (wrI σ 0 0) = cutA (aLane a j) v := by
        unfold fn_X5_cut cutA
        rw [l2' c]
        have hk : aLane a j = 0 ∨ aLane a j = 1 ∨ aLane a j = 2 := by omega
        rcases hk with e | e | e <;> rw [e] <;> rfl
      obtain ⟨x, hx, rfl⟩ := (inR_iff (by omega)).mp h2
      have t1 : toN (nI x) = x := z_cl (by omega)
      rw [ec, t1] at h5
      refine ⟨by unfold res_put; rw [if_neg k1, q4, if_neg c, if_neg c2], ?_⟩
      unfold nxt_put; rw [if_neg k1, q4, if_neg c, if_neg c2, t1, h5]
      have sc : ∀ y z, aCell (setC (setN a 7 0) j (va_up (aCell a j) x (cutA (aLane a j) v))) y z = if y = j then (if z = x then cutA (aLane a j) v else aCell a j z) else aCell a y z := by
        intro y z
        show va_up a.2.2.1 j (va_up (a.2.2.1 j) x (cutA (aLane a j) v)) y z = _
        unfold va_up
        by_cases e : y = j
        · rw [if_pos e, if_pos e]; rfl
        · rw [if_neg e, if_neg e]; rfl
      refine sheet_mono hC j q3 (fun _ _ _ => rfl) (fun y hy => rA_w2n _ _ _ _ _ hy) rfl (fun _ => rfl) (fun _ _ => rfl) rfl (fun y hy => ⟨rfl, rfl, fun z => by rw [sc, if_neg hy]; rfl⟩) ⟨l4', l5'⟩ ⟨?_, l3', fun z hz => ?_⟩
      · show rdI (wrI σ 0 0) (12 + j) = (if aSz a j = 0 then -1 else nI (aLane a j))
        rw [if_neg c]; exact l2' c
      · rw [rA_w2s, sc, if_pos rfl]
        by_cases e : z = x
        · rw [if_pos e, if_pos e]
        · rw [if_neg e, if_neg e]; exact (hC.2.2.2.2.2 j q3).2.2 z hz
    · rw [b2i_0] at h
      rw [eh, b2i_0] at h2
      have c : ¬ aSz a j = 0 := fun z => h (l1'.mpr z)
      obtain ⟨g1, g2⟩ := flt 3 (by decide) r7 σ6 h6
      exact ⟨by unfold res_put; rw [if_neg k1, q4, if_neg c, if_pos h2, g1]; decide, by unfold nxt_put; rw [if_neg k1, q4, if_neg c, if_pos h2]; exact g2⟩
    · rw [b2i_0, Classical.not_not] at h
      have c : aSz a j = 0 := l1'.mp h
      obtain ⟨g1, g2⟩ := flt 1 (by decide) r7 σ6 h6
      exact ⟨by unfold res_put; rw [if_neg k1, q4, if_pos c, g1]; decide, by unfold nxt_put; rw [if_neg k1, q4, if_pos c]; exact g2⟩
theorem celF_is {a : AS} {k : Nat} (h : aSz a k ≤ 61) (lane i : Int32) : barF a k lane i 1 = celF a k lane i := by
  unfold barF celF
  by_cases c1 : ¬ aSz a k = 0 ∧ ¬ nI (aLane a k) = lane
  · rw [if_pos c1, if_pos c1]
  · rw [if_neg c1, if_neg c1]
    by_cases c2 : aSz a k = 0
    · rw [if_pos c2, if_pos c2]
    · rw [if_neg c2, if_neg c2, if_neg (by decide)]
      have e1 : (1 : Int32).toInt = 1 := rfl
      by_cases c3 : inR i (aSz a k - 1)
      · obtain ⟨x, hx, rfl⟩ := (inR_iff (by omega)).mp c3
        rw [if_pos c3, if_pos ⟨c3.1, by rw [e1, nI_toInt (by omega)]; omega⟩]
      · rw [if_neg c3, if_neg]
        rintro ⟨q1, q2⟩
        obtain ⟨x, hx, rfl⟩ := nI_of (x := i) (Int32.not_lt.mpr q1)
        rw [e1, nI_toInt hx] at q2
        exact c3 ((inR_iff (by omega)).mpr ⟨x, by omega, rfl⟩)
theorem sp_X8_cell : Sp_X8_cell := by
  intro k i lane a σ hp
  have hC0 : RC a σ := hp
  rintro σ1 rfl
  have hC : RC (setN a 7 0) (wrI σ 0 0) := rc_flt hC0 (Nat.zero_le 4)
  refine ⟨fun hn => ?_, fun j hj => ?_⟩
  · have h := sh_no hn
    have this : ¬ (inR k 4 ∧ inR lane 3) := fun z => h z.1
    exact ⟨by unfold res_cell; rw [if_pos this], by unfold nxt_cell; rw [if_pos this]; exact hC⟩
  · obtain ⟨q1, rfl, q3, q4⟩ := sh_so hj
    refine ⟨q3, fun h => ?_, fun h => ?_⟩
    · rw [b2i_0, Classical.not_not] at h
      have k1 : ¬ ¬ (inR (nI j) 4 ∧ inR lane 3) := fun z => z ⟨q1, h⟩
      rintro σ5 rfl
      have l4 : aSz a j ≤ 61 := (wf_s hC0.1.1 q3).1
      have ef : fn_X5_faultOfTaking j lane i 1 (wrI σ 0 0) = nI (celF a j lane i) := by
        rw [fot_is hC.1.1 hC.2.2.2 q3, show barF (setN a 7 0) j lane i 1 = barF a j lane i 1 from rfl, celF_is l4]
      have hcl : celF a j lane i ≤ 4 := by unfold celF; repeat (first | decide | split)
      rw [ef]
      have h5 := rc_flt hC (v := celF a j lane i) hcl
      rw [setN_setN] at h5
      rw [rI_same]
      refine ⟨fun h0 => ⟨sh_ok h5.1.1 h5.2.2.2 q3, ?_⟩, fun h0 => ?_⟩
      · rw [show (0 : Int32) = nI 0 from rfl, z_eq (by omega) (by decide)] at h0
        have k2 : ¬ ¬ celF a j lane i = 0 := fun z => z h0
        refine ⟨?_, by unfold nxt_cell; rw [if_neg k1, q4]; exact h5⟩
        unfold res_cell; rw [if_neg k1, q4, if_neg k2]
        obtain ⟨F, N, rfl, e2, e3, e4, e5, e6, e7, -⟩ := barF_0 hC.1.1 hC.2.2.2 q3 (lane := lane) (i := i) (n := 1) (by rw [show barF (setN a 7 0) j lane i 1 = barF a j lane i 1 from rfl, celF_is l4]; exact h0)
        have e3' : F + N ≤ aSz a j - 1 := e3
        have hN : N = 1 := by rw [show (1 : Int32) = nI 1 from rfl] at e2; have := e5; rw [e2] at *; exact e5.symm.trans (by decide)
        have l3 : rdI (wrI σ 0 0) (16 + j) = nI (aSz a j - 1) := (lane_is hC.1.1 hC.2.2.2 q3).2.2.1
        unfold fn_X5_at
        have l3' : rdI (wrI (wrI σ 0 0) 0 (nI (celF a j lane (nI F)))) (16 + j) = nI (aSz a j - 1) := by rw [rI_ne _ _ (by omega)]; exact l3
        rw [if_pos (by rw [l3']; exact one_in rfl (by omega) (by omega)), e4]
        congr 1
        exact (hC.2.2.2.2.2 j q3).2.2 F (by show F + 1 < aSz a j; omega)
      · rw [show (0 : Int32) = nI 0 from rfl, z_eq (by omega) (by decide)] at h0
        exact ⟨by unfold res_cell; rw [if_neg k1, q4, if_pos h0], by unfold nxt_cell; rw [if_neg k1, q4]; exact h5⟩
    · rw [b2i_0] at h
      have this : ¬ (inR (nI j) 4 ∧ inR lane 3) := fun z => h z.2
      exact ⟨by unfold res_cell; rw [if_pos this], by unfold nxt_cell; rw [if_pos this]; exact hC⟩
theorem sp_X8_copy : Sp_X8_copy := by
  intro k i o j n a σ hp
  have hC0 : RC a σ := hp
  rintro σ1 rfl
  have hC : RC (setN a 7 0) (wrI σ 0 0) := rc_flt hC0 (Nat.zero_le 4)
  have no : ¬ (inR k 4 ∧ inR o 4) → post_X8_copy k i o j n a σ (-1) (wrI σ 0 0) := fun z => ⟨by unfold res_copy; rw [if_pos z], by unfold nxt_copy; rw [if_pos z]; exact hC⟩
  refine ⟨fun hn => ⟨fun _ => ?_, fun j5 h5 => ⟨(sh_so h5).2.2.1, ?_⟩⟩, fun x hx => ⟨(sh_so hx).2.2.1, fun hn => ?_, fun y hy => ⟨(sh_so hy).2.2.1, ?_⟩⟩⟩
  · exact no (fun z => sh_no hn z.1)
  · exact no (fun z => sh_no hn z.1)
  · exact no (fun z => sh_no hn z.2)
  · obtain ⟨q1, rfl, q3, q4⟩ := sh_so hx
    obtain ⟨p1, rfl, p3, p4⟩ := sh_so hy
    have k1 : ¬ ¬ (inR (nI x) 4 ∧ inR (nI y) 4) := fun z => z ⟨q1, p1⟩
    obtain ⟨l1, l2, l3, l4, l5⟩ := lane_is hC.1.1 hC.2.2.2 q3
    obtain ⟨m1, m2, m3, m4, m5⟩ := lane_is hC.1.1 hC.2.2.2 p3
    have l1' : rdI (wrI σ 0 0) (12 + x) = -1 ↔ aSz a x = 0 := l1
    have l2' : ¬ aSz a x = 0 → rdI (wrI σ 0 0) (12 + x) = nI (aLane a x) := l2
    have l3' : rdI (wrI σ 0 0) (16 + x) = nI (aSz a x - 1) := l3
    have l4' : aSz a x ≤ 61 := l4
    have l5' : aLane a x < 3 := l5
    have m1' : rdI (wrI σ 0 0) (12 + y) = -1 ↔ aSz a y = 0 := m1
    have m2' : ¬ aSz a y = 0 → rdI (wrI σ 0 0) (12 + y) = nI (aLane a y) := m2
    have m3' : rdI (wrI σ 0 0) (16 + y) = nI (aSz a y - 1) := m3
    have m4' : aSz a y ≤ 61 := m4
    have m5' : aLane a y < 3 := m5
    have flt : ∀ (v : Nat), v ≤ 4 → ¬ v = 0 → copF a x y i j n = v → ∀ (r7 : Int32) (σ6 : S_), post_X8_faulted (nI v) (wrI σ 0 0) r7 σ6 → post_X8_copy (nI x) i (nI y) j n a σ r7 σ6 := by
      rintro v hv hv0 hcop r7 σ6 ⟨h6, h7⟩
      have h8 := rc_flt hC (v := v) hv
      rw [setN_setN] at h8
      have k2 : ¬ copF a x y i j n = 0 := by rw [hcop]; exact hv0
      exact ⟨by unfold res_copy; rw [if_neg k1, q4, p4, if_pos k2, hcop]; exact h6, by unfold nxt_copy; rw [if_neg k1, q4, p4, if_pos k2, hcop, h7]; exact h8⟩
    have r1 := rch (L := aSz a x - 1) (i := i) (n := n) (by omega)
    have r2 := rch (L := aSz a y - 1) (i := j) (n := n) (by omega)
    refine ⟨fun h => flt 1 (by decide) (by decide) ?_, fun h => ⟨fun h2 => ⟨fun hl => ⟨fun hr => flt 3 (by decide) (by decide) ?_, fun hr => ⟨fun hr2 => ?_, fun hr2 => flt 3 (by decide) (by decide) ?_⟩⟩, fun hl => flt 2 (by decide) (by decide) ?_⟩, fun h2 => flt 1 (by decide) (by decide) ?_⟩⟩
    · rw [b2i_0, Classical.not_not] at h
      unfold copF; rw [if_pos (Or.inl (l1'.mp h))]
    · rw [b2i_0] at h h2
      have cx : ¬ aSz a x = 0 := fun z => h (l1'.mpr z)
      have cy : ¬ aSz a y = 0 := fun z => h2 (m1'.mpr z)
      rw [l2' cx, m2' cy, z_eq (by omega) (by omega)] at hl
      rw [b2i_0, l3', r1] at hr
      unfold copF; rw [if_neg (fun z => z.elim cx cy), if_neg (fun z => z hl), if_neg (fun z => hr ⟨z.1, z.2.2.1, z.2.2.2.1⟩)]
    · rw [b2i_0] at h h2
      have cx : ¬ aSz a x = 0 := fun z => h (l1'.mpr z)
      have cy : ¬ aSz a y = 0 := fun z => h2 (m1'.mpr z)
      rw [l2' cx, m2' cy, z_eq (by omega) (by omega)] at hl
      rw [b2i_0, Classical.not_not, l3', r1] at hr
      rw [b2i_0, Classical.not_not, m3', r2] at hr2
      have hcop : copF a x y i j n = 0 := by
        unfold copF; rw [if_neg (fun z => z.elim cx cy), if_neg (fun z => z hl), if_pos ⟨hr.1, hr2.1, hr.2.1, hr.2.2, hr2.2.2⟩]
      have k2 : ¬ ¬ copF a x y i j n = 0 := fun z => z hcop
      have e0 : (0 : Int32).toInt = 0 := rfl
      have i0 : ¬ i < 0 := by rw [Int32.lt_iff_toInt_lt, e0]; omega
      have j0 : ¬ j < 0 := by rw [Int32.lt_iff_toInt_lt, e0]; omega
      have n0 : ¬ n < 0 := by rw [Int32.lt_iff_toInt_lt, e0]; omega
      obtain ⟨I, hI, rfl⟩ := nI_of i0
      obtain ⟨J, hJ, rfl⟩ := nI_of j0
      obtain ⟨N, hN, rfl⟩ := nI_of n0
      have tI : toN (nI I) = I := z_cl hI
      have tJ : toN (nI J) = J := z_cl hJ
      have tN : toN (nI N) = N := z_cl hN
      rw [nI_toInt hI, nI_toInt hN] at hr
      rw [nI_toInt hJ, nI_toInt hN] at hr2
      rw [show Int32.toNatClampNeg (nI I) = I from tI, show Int32.toNatClampNeg (nI J) = J from tJ, show Int32.toNatClampNeg (nI N) = N from tN]
      refine ⟨⟨i0, j0, n0, by omega, by omega⟩, ?_⟩
      rintro σ13 rfl
      refine ⟨by unfold res_copy; rw [if_neg k1, q4, p4, if_neg k2], ?_⟩
      unfold nxt_copy; rw [if_neg k1, q4, p4, if_neg k2, tI, tJ, tN]
      have sc : ∀ u z, aCell (setC (setN a 7 0) y (va_cpy (aCell a x) (aCell a y) I J N)) u z = if u = y then va_cpy (aCell a x) (aCell a y) I J N z else aCell a u z := by
        intro u z
        show va_up a.2.2.1 y _ u z = _
        unfold va_up
        by_cases e : u = y
        · rw [if_pos e, if_pos e]
        · rw [if_neg e, if_neg e]; rfl
      refine sheet_mono hC y p3 (fun _ _ _ => rfl) (fun u hu => by rw [rA_wA, if_neg hu]) rfl (fun _ => rfl) (fun _ _ => rfl) rfl (fun u hu => ⟨rfl, rfl, fun z => by rw [sc, if_neg hu]; rfl⟩) ⟨m4', m5'⟩ ⟨?_, m3', fun z hz => ?_⟩
      · show rdI (wrI σ 0 0) (12 + y) = (if aSz a y = 0 then -1 else nI (aLane a y))
        rw [if_neg cy]; exact m2' cy
      · rw [rA_wA, if_pos rfl, sc, if_pos rfl]
        have hz' : z + 1 < aSz a y := hz
        unfold va_cpy
        by_cases c : J ≤ z ∧ z < J + N
        · rw [if_pos c, if_pos c]
          exact (hC.2.2.2.2.2 x q3).2.2 _ (by show I + (z - J) + 1 < aSz a x; omega)
        · rw [if_neg c, if_neg c]
          exact (hC.2.2.2.2.2 y p3).2.2 z hz
    · rw [b2i_0] at h h2
      have cx : ¬ aSz a x = 0 := fun z => h (l1'.mpr z)
      have cy : ¬ aSz a y = 0 := fun z => h2 (m1'.mpr z)
      rw [l2' cx, m2' cy, z_eq (by omega) (by omega)] at hl
      rw [b2i_0, m3', r2] at hr2
      unfold copF; rw [if_neg (fun z => z.elim cx cy), if_neg (fun z => z hl), if_neg (fun z => hr2 ⟨z.2.1, z.2.2.1, z.2.2.2.2⟩)]
    · rw [b2i_0] at h h2
      have cx : ¬ aSz a x = 0 := fun z => h (l1'.mpr z)
      have cy : ¬ aSz a y = 0 := fun z => h2 (m1'.mpr z)
      rw [l2' cx, m2' cy, z_eq (by omega) (by omega)] at hl
      unfold copF; rw [if_neg (fun z => z.elim cx cy), if_pos hl]
    · rw [b2i_0] at h
      rw [b2i_0, Classical.not_not] at h2
      unfold copF; rw [if_pos (Or.inr (m1'.mp h2))]
