/-! Arrays.fill of a row of ints -/
theorem fillF_0 (f : Nat → Int32) (v : Int32) : fillF f 0 v = f := by
  funext j
  unfold fillF
  exact if_neg (Nat.not_lt_zero j)
theorem fillF_s (f : Nat → Int32) (k : Nat) (v : Int32) : upd (fillF f k v) k v = fillF f (k + 1) v := by
  funext j
  unfold upd fillF
  by_cases h : j = k
  · subst h
    rw [if_pos rfl, if_pos (Nat.lt_succ_self _)]
  · rw [if_neg h]
    by_cases h2 : j < k
    · rw [if_pos h2, if_pos (by omega)]
    · rw [if_neg h2, if_neg (by omega)]
set_option maxHeartbeats 4000000 in
set_option maxRecDepth 100000 in
theorem ct_J7_fill_53178 (l : Launch) : Ct_J7_fill_53178 l := by
  intro D cy A ws q0 a n f v hq hn
  refine Met.ofW (cc := cJ7_fill_53178) (maxL := 4) (ret := none) (by decide) rfl ?_
  intro p e s m args below meth c s₁ B hml hv0
  obtain ⟨rfl, hP, hK, hD⟩ := hv0
  have hx := B.exec
  have hb := B.bytes
  have hr := B.returns
  have hlocks := B.notSynchronized
  have hl := lv_entry ([.ref a, .int v]) (n := 4) (Nat.le_of_ble_eq_true rfl)
  rw [lg_entry_eq]
  generalize (lg_sl ([.ref a, .int v]) ++ List.replicate (4 - (lg_sl ([.ref a, .int v])).length) Slot.unset).toArray = ls at hl ⊢
  have hl : lv_has ls 4 [(0, .ref a), (1, .int v)] := hl
  refine W_gen (fun R Z H locs hR hZ hH hlo => ?_)
  have hS : va_S A s.heap H locs := by rw [hH, hlo]; exact va_S.rf
  rw [← hH] at hP
  have hlen : q0 < ws.length := (List.getElem?_eq_some_iff.mp hq).1
  have hself : ws.set q0 (a, .inl (cy 0, n, .inl (fillF f 0 v))) = ws := by
    rw [fillF_0]
    apply List.ext_getElem?
    intro j
    by_cases hj : j = q0
    · subst hj
      rw [List.getElem?_set_self hlen, hq]
    · rw [List.getElem?_set_ne (Ne.symm hj)]
  have lp : ∀ (mm k : Nat), k + mm = n → ∀ (H : Heap) (locs : List Loc) (ls : Array Slot), va_P D vwCl (ws.set q0 (a, .inl (cy 0, n, .inl (fillF f k v)))) H → va_D A (ws.set q0 (a, .inl (cy 0, n, .inl (fillF f k v)))) → va_S A s.heap H locs → lv_has ls 4 [(2, .int (nI k)), (3, .int (nI n)), (0, .ref a), (1, .int v)] → W p l e R s m ([.ref a, .int v] : List Value).toArray below meth c H locs 0 0 Z (F0 m 5 ls []) := by
    intro mm
    induction mm with
    | zero =>
      intro k hk H locs ls hP hD hS hl
      have hkn : k = n := by omega
      subst hkn
      refine lv_iload_n hx hb dJ7_fill_53178_5 rfl (lv_at hl 0 rfl) ?_
      refine lv_iload_n hx hb dJ7_fill_53178_6 rfl (lv_at hl 1 rfl) ?_
      refine lv_icmp_ge (tgt := 20) hx hb dJ7_fill_53178_7 (by decide) (fun _ => ?_) (fun z => absurd (Int32.le_refl _) z)
      rw [hZ]
      exact W.vret hx hb hr (fun t ht hW => ⟨⟨(), rfl, trivial, P_of ht hP, hD⟩, hS.F ht⟩) hS.2.2 dJ7_fill_53178_20
    | succ mm ih =>
      intro k hk H locs ls hP hD hS hl
      have hkn : k < n := by omega
      have hi : vp_in (nI k) n := vp_in_nI hkn (by omega)
      have hq1 : (ws.set q0 (a, .inl (cy 0, n, .inl (fillF f k v))))[q0]? = some (a, .inl (cy 0, n, .inl (fillF f k v))) := List.getElem?_set_self hlen
      refine lv_iload_n hx hb dJ7_fill_53178_5 rfl (lv_at hl 0 rfl) ?_
      refine lv_iload_n hx hb dJ7_fill_53178_6 rfl (lv_at hl 1 rfl) ?_
      refine lv_icmp_ge (tgt := 20) hx hb dJ7_fill_53178_7 (by decide) (fun z => absurd z (by
        intro z
        have h1 := (nI_leI (show n < 2 ^ 31 by omega) (show k < 2 ^ 31 by omega)).mp z
        omega)) (fun _ => ?_)
      refine lv_aload_n hx hb dJ7_fill_53178_10 rfl (lv_at hl 2 rfl) ?_
      refine lv_iload_n hx hb dJ7_fill_53178_11 rfl (lv_at hl 0 rfl) ?_
      refine lv_iload_n hx hb dJ7_fill_53178_12 rfl (lv_at hl 3 rfl) ?_
      refine va_iast hx hb hK hP hD hS q0 0 hq1 rfl hi dJ7_fill_53178_13 (fun H locs hP hD hS => ?_)
      rw [List.set_set, show (Int32.toNatClampNeg (nI k)) = k from nI_clamp (by omega), fillF_s] at hP hD
      refine lv_iinc (v := nI (k + 1)) (lv' := [(2, .int (nI (k + 1))), (3, .int (nI n)), (0, .ref a), (1, .int v)]) hx hb dJ7_fill_53178_14 hl (k := 0) rfl (by rw [← nI_1]; rfl) (by decide) rfl (fun ls hl => ?_)
      refine lv_goto (tgt := 5) hx hb dJ7_fill_53178_17 (by decide) ?_
      exact ih (k + 1) (by omega) _ _ _ hP hD hS hl
  refine lv_iconst (v := 0) hx hb dJ7_fill_53178_0 (by decide) ?_
  refine lv_istore_n (lv' := [(2, .int 0), (0, .ref a), (1, .int v)]) hx hb dJ7_fill_53178_1 rfl hl (by decide) rfl (fun ls hl => ?_)
  refine lv_aload_n hx hb dJ7_fill_53178_2 rfl (lv_at hl 1 rfl) ?_
  refine va_alen hx hb hK hP q0 0 hq rfl (v := nI n) rfl dJ7_fill_53178_3 ?_
  refine lv_istore_n (lv' := [(3, .int (nI n)), (2, .int 0), (0, .ref a), (1, .int v)]) hx hb dJ7_fill_53178_4 rfl hl (by decide) rfl (fun ls hl => ?_)
  exact lp n 0 (Nat.zero_add n) _ _ _ (by rw [hself]; exact hP) (by rw [hself]; exact hD) hS (lv_sub hl [1, 0, 2, 3] rfl)
