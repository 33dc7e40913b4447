/-! people are born -/
theorem nil_P {D : va_G} {cl : List vw_C} {H : Heap} : va_P D cl [] H := fun k q h => by simp at h
theorem nil_D {A : Nat → Prop} : va_D A [] := ⟨fun i j p q h => by simp at h, fun k q h => by simp at h⟩
def clsL (c : Int32) : Nat := if c = 98 then 0 else if c = 103 then 1 else 2
theorem clsL_isC (c : Int32) : isC (clsL c) := by
  unfold clsL isC
  split
  · exact Or.inl rfl
  · split
    · exact Or.inr (Or.inl rfl)
    · exact Or.inr (Or.inr rfl)
def pushH (σ : S_) (h : HC) : S_ := (σ.1, σ.2.1, σ.2.2 ++ [h])
def bornS (σ : S_) (q : Nat) (p let_ minds home : Int32) : S_ := wrP σ (va_up (pg σ) (Int32.toNatClampNeg p) (some q)) (hs σ ++ [(q, clsL let_, p, minds, home)])
theorem pushH_lt (σ : S_) (h : HC) : nH σ < nH (pushH σ h) := by
  show σ.2.2.length < (σ.2.2 ++ [h]).length
  rw [List.length_append]; exact Nat.lt_succ_self _
theorem pushH_get (σ : S_) (h : HC) : hget (pushH σ h) (nH σ) = h := by
  show (σ.2.2 ++ [h]).getD σ.2.2.length _ = h
  rw [List.getD_eq_getElem?_getD, List.getElem?_append_right (Nat.le_refl _), Nat.sub_self]; rfl
theorem wC_push (cy : Nat → ClassId) (ad : Nat → Nat) (σ : S_) (h : HC) : wC cy ad σ ++ [hcell h] = wC cy ad (pushH σ h) := by
  unfold wC
  rw [List.append_assoc]
  show _ ++ ((hs σ).map hcell ++ [h].map hcell) = _ ++ ((hs σ ++ [h]).map hcell)
  rw [List.map_append]; rfl
theorem wC_drop (cy : Nat → ClassId) (ad : Nat → Nat) (σ : S_) : wC cy ad σ = wC cy ad (wrP σ (pg σ) []) ++ (hs σ).map hcell := by
  unfold wC
  show _ ++ _ = (_ ++ ([] : List HC).map hcell) ++ _
  rw [List.map_nil, List.append_nil]; rfl
theorem drop_P {D : va_G} {cl : List vw_C} {cy : Nat → ClassId} {ad : Nat → Nat} {σ : S_} {H : Heap} (h : va_P D cl (wC cy ad σ) H) : va_P D cl (wC cy ad (wrP σ (pg σ) [])) H := by
  rw [wC_drop] at h
  intro k q hk
  exact h k q (by rw [List.getElem?_append_left (List.getElem?_eq_some_iff.mp hk).1]; exact hk)
theorem drop_D {A : Nat → Prop} {cy : Nat → ClassId} {ad : Nat → Nat} {σ : S_} (h : va_D A (wC cy ad σ)) : va_D A (wC cy ad (wrP σ (pg σ) [])) := by
  rw [wC_drop] at h
  have key : ∀ (k : Nat) (q : Nat × va_E), (wC cy ad (wrP σ (pg σ) []))[k]? = some q → (wC cy ad (wrP σ (pg σ) []) ++ (hs σ).map hcell)[k]? = some q := fun k q hk => by
    rw [List.getElem?_append_left (List.getElem?_eq_some_iff.mp hk).1]; exact hk
  exact ⟨fun i j p q hi hj e => h.1 i j p q (key i p hi) (key j q hj) e, fun k q hk => h.2 k q (key k q hk)⟩
def CA2 (U : State) : Prop := va_Nw (.castable "TaleBans$Bard" "TaleBans$Herder") U ∧ va_Nw (.castable "TaleBans$Granny" "TaleBans$Herder") U
theorem CA2.warm {s U : State} (hW : s.WarmedH U.vm) (h : CA2 s) : CA2 U := ⟨va_Nw.warmC hW h.1, va_Nw.warmC hW h.2⟩
theorem CA2.calling {U : State} {a : Array Value} {g : JFrame} {mk : MethodId} (h : CA2 U) : CA2 (U.calling g mk a) := ⟨va_Nw.same rfl rfl h.1, va_Nw.same rfl rfl h.2⟩
/-- what holds at a start of a call that makes people -/
def WdS (D : va_G) (cy : Nat → ClassId) (ad : Nat → Nat) (A : Nat → Prop) (σ : S_) (U : State) : Prop := WdC D cy ad A σ U ∧ CA2 U ∧ ∀ q, U.heap.size ≤ q → A q
theorem WdS.blind {D : va_G} {cy : Nat → ClassId} {ad : Nat → Nat} {A : Nat → Prop} {σ : S_} {U : State} {a : Array Value} {g : JFrame} {mk : MethodId} (h : WdS D cy ad A σ U) : WdS D cy ad A σ (U.calling g mk a) := ⟨h.1.blind, h.2.1.calling, h.2.2⟩
theorem WdS.pre {D : va_G} {cy : Nat → ClassId} {ad : Nat → Nat} {A : Nat → Prop} {σ : S_} {s U : State} {H : Heap} (hP : va_P D vwCl (wC cy ad σ) H) (hK : va_K D vwCl (tysK cy) s) (hD : va_D A (wC cy ad σ)) (hN : NW s) (hCA : CA2 s) (hA : ∀ q, H.size ≤ q → A q) (hU : U.heap = H) (hW : s.WarmedH U.vm) : WdS D cy ad A σ U := ⟨WdC.pre hP hK hD hN hU hW, hCA.warm hW, fun q hq => hA q (by rw [← hU]; exact hq)⟩
section KBORN
variable {p : Program} {l : Launch} {e : Env} {R : Room} {s : State} {m : MethodId} {args : Array Value} {below : List Frame} {meth : Method} {c : Code} {H : Heap} {locs : List Loc} {cells slots : Nat} {Q : State → Prop}
variable {cc : ByteArray} {pc : Nat} {ls : Array Slot} {rest st0 : List Value} {a : Array Value} {D : va_G} {cl : List vw_C} {ws : va_W} {A : Nat → Prop} {H0 : Heap}
theorem k_rel_v7 {post : S_ → Prop} {w : S_ → va_W} {mc ms : Nat} (hr : va_Run p l e R s m args below meth c H locs cells slots mc ms (F0 m pc ls st0) rest (va_Qv post (fun u t => va_P D cl (w u) t.heap ∧ va_D A (w u)) A a) A) (hS : va_S A H0 H locs) (kk : ∀ (u : S_) (H1 : Heap) (locs1 : List Loc), post u → va_P D cl (w u) H1 → va_D A (w u) → va_S A H0 H1 locs1 → W p l e R s m args below meth c H1 locs1 (cells + mc) (slots + ms) Q (F0 m (pc + 3) ls rest)) : W p l e R s m args below meth c H locs cells slots Q (F0 m pc ls st0) := va_callv hr hS (fun q _ h => h) (fun q h => h) (fun u t H1 locs1 ht hvm hw hB hz hk hS1 => kk u H1 locs1 hw (ht ▸ hB.1) hB.2 hS1)
theorem k_born {h : va_E} (hr : va_Run p l e R s m args below meth c H locs cells slots 1 3 (F0 m pc ls st0) rest (va_Qr (S := Unit) (fun _ => True) (fun _ ra t => va_P D cl [(ra, h)] t.heap ∧ va_D (va_A [] H.size) [(ra, h)]) (va_A [] H.size) a) (va_A [] H.size)) (hS : va_S A H0 H locs) (hA : ∀ q, H0.size ≤ q → A q) (hP : va_P D cl ws H) (hD : va_D A ws)
    (kk : ∀ (ra : Nat) (H1 : Heap) (locs1 : List Loc), va_P D cl (ws ++ [(ra, h)]) H1 → va_D A (ws ++ [(ra, h)]) → va_S A H0 H1 locs1 → W p l e R s m args below meth c H1 locs1 (cells + 1) (slots + 3) Q (F0 m (pc + 3) ls (.ref ra :: rest))) : W p l e R s m args below meth c H locs cells slots Q (F0 m pc ls st0) := by
  have hB0 : ∀ q, va_A [] H.size q → H.size ≤ q := fun q hq => by
    rcases hq with ⟨k, e, hk⟩ | hq
    · simp at hk
    · exact hq
  refine va_callr hr hS (fun q h1 h2 => absurd (hB0 q h2) (Nat.not_le.mpr h1)) (fun q hq => hA q (Nat.le_trans hS.1 (hB0 q hq))) (fun u ra t H1 locs1 ht hvm hw hB hz hk hS1 => ?_)
  have hP1 : va_P D cl [(ra, h)] H1 := ht ▸ hB.1
  have hra : H.size ≤ ra := hB0 ra (hB.2.2 0 (ra, h) rfl)
  have hlt : ∀ (k : Nat) (q : Nat × va_E), ws[k]? = some q → q.1 < H.size := fun k q hq => (hP k q hq).lt
  have hkeep : va_P D cl ws H1 := hP.kept (fun k q hq => hk q.1 (hlt k q hq) (fun z => absurd (hB0 _ z) (Nat.not_le.mpr (hlt k q hq))))
  refine kk ra H1 locs1 (hkeep.app hP1) (va_D.app hD (hB.2.weaken (fun k q hq h1 => hA q.1 (Nat.le_trans hS.1 (hB0 _ h1)))) (fun i j x y hx hy hxy => ?_)) hS1
  have h1 := hlt i x hx
  have h2 : H.size ≤ y.1 := hB0 _ (hB.2.2 j y hy)
  omega
theorem k_ast (hexec : p.tables.exec = Jvm.exec) (hb : c.code = cc) {cy : Nat → ClassId} {ad : Nat → Nat} {σ : S_} (hK : va_K D vwCl (tysK cy) s) (hCA : CA2 s) (hP : va_P D vwCl (wC cy ad σ) H) (hD : va_D A (wC cy ad σ)) (hS : va_S A H0 H locs) {q : Nat} {h : HC} (hq : q < nH σ) (hg : hget σ q = h) {i : Int32} (hin : vp_in i 6) (hc : isC h.2.1) (hdg : decode cc pc = .ok (.aastore, 1))
    (kk : ∀ (H1 : Heap) (locs1 : List Loc), va_P D vwCl (wC cy ad (wrP σ (va_up (pg σ) (Int32.toNatClampNeg i) (some h.1)) (hs σ))) H1 → va_D A (wC cy ad (wrP σ (va_up (pg σ) (Int32.toNatClampNeg i) (some h.1)) (hs σ))) → va_S A H0 H1 locs1 → W p l e R s m args below meth c H1 locs1 cells slots Q (F0 m (pc + 1) ls rest)) : W p l e R s m args below meth c H locs cells slots Q (F0 m pc ls (.ref h.1 :: .int i :: .ref (ad 12) :: rest)) := by
  subst hg
  rcases hc with hc | hc | hc
  · exact va_astqO hexec hb hK hP hD hS 12 3 (28 + q) 0 (E := "TaleBans$Herder") (r := (RX0, TX0, 3)) (wC_12 cy ad σ) rfl hCA.1 (wC_hc cy ad σ hq hc) rfl hin hdg (fun H1 locs1 hP1 hD1 hS1 => kk H1 locs1 hP1 hD1 hS1)
  · exact va_astqO hexec hb hK hP hD hS 12 3 (28 + q) 1 (E := "TaleBans$Herder") (r := (RX1, TX1, 3)) (wC_12 cy ad σ) rfl hCA.2 (wC_hc cy ad σ hq hc) rfl hin hdg (fun H1 locs1 hP1 hD1 hS1 => kk H1 locs1 hP1 hD1 hS1)
  · exact va_astq hexec hb hK hP hD hS 12 3 (28 + q) 2 (r := (RX2, TX2, 3)) (wC_12 cy ad σ) rfl (wC_hc cy ad σ hq hc) rfl hin hdg (fun H1 locs1 hP1 hD1 hS1 => kk H1 locs1 hP1 hD1 hS1)
end KBORN
set_option maxHeartbeats 4000000 in
set_option maxRecDepth 100000 in
theorem wk_X6_born (l : Launch) (D : va_G) (cy : Nat → ClassId) (n0 n1 n2 n3 : Int32) (sz : Nat) : Met l yX6_born wsX6_born ({ frames := 4, cells := 1, slots := 3, locals := 89 }) (va_Pc [.int n0, .int n1, .int n2, .int n3] (MkS D cy [] sz)) (va_Qr (S := Unit) (fun _ => True) (fun _ ra t => va_P D vwCl [(ra, .inr (clsL n1, [.int n0, .int n2, .int n3]))] t.heap ∧ va_D (va_A [] sz) [(ra, .inr (clsL n1, [.int n0, .int n2, .int n3]))]) (va_A [] sz)) 1 3 (va_A [] sz) := by
  refine Met.ofW (cc := cX6_born) (maxL := 4) (ret := (some (.object "TaleBans$Herder"))) (by decide) rfl ?_
  intro p e s m args below meth c s₁ B hml hv
  obtain ⟨rfl, hsz, hP, hD0, hKW⟩ := hv
  have hx := B.exec
  have hb := B.bytes
  have hr := B.returns
  have hts := atoms_spec (ws := wsX6_born) B.pre
  have hown : s.vm.findClass RX6 = some m.cls := findClass_of_methodNamed B.named
  have hlocks := B.notSynchronized
  subst hsz
  have hK := hKW.1
  have hN := hKW.2
  have hD : va_D (va_A [] s.heap.size) [] := nil_D
  generalize hAe : va_A [] s.heap.size = A at hD ⊢
  have hA : ∀ q : Nat, s.heap.size ≤ q → A q := fun q h => by rw [← hAe]; exact Or.inr h
  have hS : va_S A s.heap s.heap [] := va_S.rf
  have hl := lv_entry ([.int n0, .int n1, .int n2, .int n3]) (n := 4) (Nat.le_of_ble_eq_true rfl)
  rw [lg_entry_eq]
  generalize (lg_sl ([.int n0, .int n1, .int n2, .int n3]) ++ List.replicate (4 - (lg_sl ([.int n0, .int n1, .int n2, .int n3])).length) Slot.unset).toArray = ls at hl ⊢
  have hl : lv_has ls 4 [(0, .int n0), (1, .int n1), (2, .int n2), (3, .int n3)] := hl
  have hinX0 : ∀ w ∈ wsX00, w ∈ wsX6_born := by decide +kernel
  have hinX1 : ∀ w ∈ wsX10, w ∈ wsX6_born := by decide +kernel
  have hinX2 : ∀ w ∈ wsX20, w ∈ wsX6_born := by decide +kernel
  refine lv_iload_n hx hb dX6_born_0 rfl (lv_at hl 1 rfl) ?_
  by_cases c1 : n1 = 98
  · rw [show clsL n1 = 0 from by rw [c1]; rfl]
    refine lv_lookup (tgt := 39) hx hb dX6_born_1 rfl (by first | (rw [c1]; done) | (rw [c1]; rfl)) (by decide) ?_
    refine va_new (ci := 0) (fs := [.int 0, .int 0, .int 0]) (C := RX0) (T := TX0) (N := 3) hx hb hts hinX0 tyX0 tyX0_ok hown (hts (.classLink RX6 73 RX0) (List.mem_of_getElem? (i := 4) rfl)) (hts (.instantiable RX0 3) (List.mem_of_getElem? (i := 5) rfl)) (hts (.initialized RX0) (List.mem_of_getElem? (i := 6) rfl)) hK hP hD hS hA rfl (fun j hj => by rcases (show j = 0 ∨ j = 1 ∨ j = 2 by omega) with rfl | rfl | rfl <;> rfl) (Nat.le_of_ble_eq_true rfl) (Nat.le_of_ble_eq_true rfl) dX6_born_39 (fun q1 H hP hD hS => ?_)
    have hP : va_P D vwCl [(q1, .inr (0, [.int 0, .int 0, .int 0]))] H := hP
    have hD : va_D A [(q1, .inr (0, [.int 0, .int 0, .int 0]))] := hD
    refine W.widen (k := 1) (n := 3) (Nat.le_of_ble_eq_true rfl) (Nat.le_of_ble_eq_true rfl) ?_
    refine lv_dup hx hb dX6_born_42 rfl ?_
    refine lv_iload_n hx hb dX6_born_43 rfl (lv_at hl 0 rfl) ?_
    refine lv_iload_n hx hb dX6_born_44 rfl (lv_at hl 2 rfl) ?_
    refine lv_iload_n hx hb dX6_born_45 rfl (lv_at hl 3 rfl) ?_
    have hPc := hP.sub (ws' := [(q1, .inr (0, [.int 0, .int 0, .int 0]))]) [0] rfl
    have hDc := hD.sub (ws' := [(q1, .inr (0, [.int 0, .int 0, .int 0]))]) [0] (by decide) rfl
    have hFc := va_free (wc := [(q1, .inr (0, [.int 0, .int 0, .int 0]))]) hD hS hA [0] rfl
    refine va_callv (va_runIN (As := [.int n0, .int n2, .int n3]) (rest := [.ref q1]) ⟨hx, hb, hml, hown, hts⟩ (mk_X0_0 l D cy q1 n0 n2 n3 H.size) ⟨va_cnB 3 hts gX6_born_X0_init_n75 rfl rfl rfl (nwm_32 hN) (hts (.initialized RX0) (List.mem_of_getElem? (i := 6) rfl)) (by decide +kernel) ⟨Nat.le_of_ble_eq_true rfl, Nat.le_of_ble_eq_true rfl⟩, rfl, (hts (.instanceMethod yX0_init) (List.mem_of_getElem? (i := 12) rfl))⟩ ⟨fun a U g mk q => ⟨q.1, q.2.blind⟩, fun U hU hW => ⟨rfl, MkS.pre hPc hDc hKW hU hW⟩⟩ rfl rfl hl.1 rfl (lv_room (Nat.le_of_ble_eq_true rfl)) dX6_born_46 ⟨Nat.le_of_ble_eq_true rfl, Nat.le_of_ble_eq_true rfl⟩) hS (fun q _ h => hFc q h) hFc (fun u2 t H1 locs ht hvm hw hB hz1 hk1 hS => ?_)
    obtain ⟨hP1, hD1⟩ := hB
    rw [ht] at hP1
    obtain ⟨hP, hD⟩ := va_join (wr := []) (w1 := [(q1, .inr (0, [.int n0, .int n2, .int n3]))]) hP hD [0] [] rfl rfl (by decide) (by decide) hk1 hFc hP1 hD1
    clear hP1 hD1 hPc hDc
    generalize H1 = H at hP hS ⊢
    have hP : va_P D vwCl [(q1, .inr (0, [.int n0, .int n2, .int n3]))] H := hP
    have hD : va_D A [(q1, .inr (0, [.int n0, .int n2, .int n3]))] := hD
    refine W.widen (k := 1) (n := 3) (Nat.le_of_ble_eq_true rfl) (Nat.le_of_ble_eq_true rfl) ?_
    refine W.widen (k := 1) (n := 3) (Nat.le_of_ble_eq_true rfl) (Nat.le_of_ble_eq_true rfl) ?_
    exact W.aret (v := .ref q1) hx hb hr (Or.inl ⟨_, rfl⟩) (Or.inr ⟨_, rfl⟩) (fun t ht hW => ⟨⟨(), q1, rfl, trivial, P_of ht hP, hD⟩, hS.F ht⟩) hS.2.2 dX6_born_49
  · by_cases c2 : n1 = 103
    · rw [show clsL n1 = 1 from by rw [c2]; rfl]
      refine lv_lookup (tgt := 28) hx hb dX6_born_1 rfl (by first | (rw [c2]; done) | (rw [c2]; rfl)) (by decide) ?_
      refine va_new (ci := 1) (fs := [.int 0, .int 0, .int 0]) (C := RX1) (T := TX1) (N := 3) hx hb hts hinX1 tyX1 tyX1_ok hown (hts (.classLink RX6 68 RX1) (List.mem_of_getElem? (i := 1) rfl)) (hts (.instantiable RX1 3) (List.mem_of_getElem? (i := 2) rfl)) (hts (.initialized RX1) (List.mem_of_getElem? (i := 3) rfl)) hK hP hD hS hA rfl (fun j hj => by rcases (show j = 0 ∨ j = 1 ∨ j = 2 by omega) with rfl | rfl | rfl <;> rfl) (Nat.le_of_ble_eq_true rfl) (Nat.le_of_ble_eq_true rfl) dX6_born_28 (fun q1 H hP hD hS => ?_)
      have hP : va_P D vwCl [(q1, .inr (1, [.int 0, .int 0, .int 0]))] H := hP
      have hD : va_D A [(q1, .inr (1, [.int 0, .int 0, .int 0]))] := hD
      refine W.widen (k := 1) (n := 3) (Nat.le_of_ble_eq_true rfl) (Nat.le_of_ble_eq_true rfl) ?_
      refine lv_dup hx hb dX6_born_31 rfl ?_
      refine lv_iload_n hx hb dX6_born_32 rfl (lv_at hl 0 rfl) ?_
      refine lv_iload_n hx hb dX6_born_33 rfl (lv_at hl 2 rfl) ?_
      refine lv_iload_n hx hb dX6_born_34 rfl (lv_at hl 3 rfl) ?_
      have hPc := hP.sub (ws' := [(q1, .inr (1, [.int 0, .int 0, .int 0]))]) [0] rfl
      have hDc := hD.sub (ws' := [(q1, .inr (1, [.int 0, .int 0, .int 0]))]) [0] (by decide) rfl
      have hFc := va_free (wc := [(q1, .inr (1, [.int 0, .int 0, .int 0]))]) hD hS hA [0] rfl
      refine va_callv (va_runIN (As := [.int n0, .int n2, .int n3]) (rest := [.ref q1]) ⟨hx, hb, hml, hown, hts⟩ (mk_X1_1 l D cy q1 n0 n2 n3 H.size) ⟨va_cnB 3 hts gX6_born_X1_init_n70 rfl rfl rfl (nwm_29 hN) (hts (.initialized RX1) (List.mem_of_getElem? (i := 3) rfl)) (by decide +kernel) ⟨Nat.le_of_ble_eq_true rfl, Nat.le_of_ble_eq_true rfl⟩, rfl, (hts (.instanceMethod yX1_init) (List.mem_of_getElem? (i := 10) rfl))⟩ ⟨fun a U g mk q => ⟨q.1, q.2.blind⟩, fun U hU hW => ⟨rfl, MkS.pre hPc hDc hKW hU hW⟩⟩ rfl rfl hl.1 rfl (lv_room (Nat.le_of_ble_eq_true rfl)) dX6_born_35 ⟨Nat.le_of_ble_eq_true rfl, Nat.le_of_ble_eq_true rfl⟩) hS (fun q _ h => hFc q h) hFc (fun u2 t H1 locs ht hvm hw hB hz1 hk1 hS => ?_)
      obtain ⟨hP1, hD1⟩ := hB
      rw [ht] at hP1
      obtain ⟨hP, hD⟩ := va_join (wr := []) (w1 := [(q1, .inr (1, [.int n0, .int n2, .int n3]))]) hP hD [0] [] rfl rfl (by decide) (by decide) hk1 hFc hP1 hD1
      clear hP1 hD1 hPc hDc
      generalize H1 = H at hP hS ⊢
      have hP : va_P D vwCl [(q1, .inr (1, [.int n0, .int n2, .int n3]))] H := hP
      have hD : va_D A [(q1, .inr (1, [.int n0, .int n2, .int n3]))] := hD
      refine W.widen (k := 1) (n := 3) (Nat.le_of_ble_eq_true rfl) (Nat.le_of_ble_eq_true rfl) ?_
      refine W.widen (k := 1) (n := 3) (Nat.le_of_ble_eq_true rfl) (Nat.le_of_ble_eq_true rfl) ?_
      exact W.aret (v := .ref q1) hx hb hr (Or.inl ⟨_, rfl⟩) (Or.inr ⟨_, rfl⟩) (fun t ht hW => ⟨⟨(), q1, rfl, trivial, P_of ht hP, hD⟩, hS.F ht⟩) hS.2.2 dX6_born_38
    · rw [show clsL n1 = 2 from by unfold clsL; rw [if_neg c1, if_neg c2]]
      refine lv_lookup (tgt := 50) (off := 49) hx hb dX6_born_1 rfl (show Op.lookupswitch.offset [(98, 38), (103, 27)] 49 _ = 49 from (lv_osw c1 (by decide)).trans ((lv_osw c2 (by decide)).trans (rfl))) (by decide) ?_
      refine va_new (ci := 2) (fs := [.int 0, .int 0, .int 0]) (C := RX2) (T := TX2) (N := 3) hx hb hts hinX2 tyX2 tyX2_ok hown (hts (.classLink RX6 9 RX2) (List.mem_of_getElem? (i := 7) rfl)) (hts (.instantiable RX2 3) (List.mem_of_getElem? (i := 8) rfl)) (hts (.initialized RX2) (List.mem_of_getElem? (i := 9) rfl)) hK hP hD hS hA rfl (fun j hj => by rcases (show j = 0 ∨ j = 1 ∨ j = 2 by omega) with rfl | rfl | rfl <;> rfl) (Nat.le_of_ble_eq_true rfl) (Nat.le_of_ble_eq_true rfl) dX6_born_50 (fun q1 H hP hD hS => ?_)
      have hP : va_P D vwCl [(q1, .inr (2, [.int 0, .int 0, .int 0]))] H := hP
      have hD : va_D A [(q1, .inr (2, [.int 0, .int 0, .int 0]))] := hD
      refine W.widen (k := 1) (n := 3) (Nat.le_of_ble_eq_true rfl) (Nat.le_of_ble_eq_true rfl) ?_
      refine lv_dup hx hb dX6_born_53 rfl ?_
      refine lv_iload_n hx hb dX6_born_54 rfl (lv_at hl 0 rfl) ?_
      refine lv_iload_n hx hb dX6_born_55 rfl (lv_at hl 2 rfl) ?_
      refine lv_iload_n hx hb dX6_born_56 rfl (lv_at hl 3 rfl) ?_
      have hPc := hP.sub (ws' := [(q1, .inr (2, [.int 0, .int 0, .int 0]))]) [0] rfl
      have hDc := hD.sub (ws' := [(q1, .inr (2, [.int 0, .int 0, .int 0]))]) [0] (by decide) rfl
      have hFc := va_free (wc := [(q1, .inr (2, [.int 0, .int 0, .int 0]))]) hD hS hA [0] rfl
      refine va_callv (va_runIN (As := [.int n0, .int n2, .int n3]) (rest := [.ref q1]) ⟨hx, hb, hml, hown, hts⟩ (mk_X2_2 l D cy q1 n0 n2 n3 H.size) ⟨va_cnB 3 hts gX6_born_X2_init_n76 rfl rfl rfl (nwm_33 hN) (hts (.initialized RX2) (List.mem_of_getElem? (i := 9) rfl)) (by decide +kernel) ⟨Nat.le_of_ble_eq_true rfl, Nat.le_of_ble_eq_true rfl⟩, rfl, (hts (.instanceMethod yX2_init) (List.mem_of_getElem? (i := 14) rfl))⟩ ⟨fun a U g mk q => ⟨q.1, q.2.blind⟩, fun U hU hW => ⟨rfl, MkS.pre hPc hDc hKW hU hW⟩⟩ rfl rfl hl.1 rfl (lv_room (Nat.le_of_ble_eq_true rfl)) dX6_born_57 ⟨Nat.le_of_ble_eq_true rfl, Nat.le_of_ble_eq_true rfl⟩) hS (fun q _ h => hFc q h) hFc (fun u2 t H1 locs ht hvm hw hB hz1 hk1 hS => ?_)
      obtain ⟨hP1, hD1⟩ := hB
      rw [ht] at hP1
      obtain ⟨hP, hD⟩ := va_join (wr := []) (w1 := [(q1, .inr (2, [.int n0, .int n2, .int n3]))]) hP hD [0] [] rfl rfl (by decide) (by decide) hk1 hFc hP1 hD1
      clear hP1 hD1 hPc hDc
      generalize H1 = H at hP hS ⊢
      have hP : va_P D vwCl [(q1, .inr (2, [.int n0, .int n2, .int n3]))] H := hP
      have hD : va_D A [(q1, .inr (2, [.int n0, .int n2, .int n3]))] := hD
      refine W.widen (k := 1) (n := 3) (Nat.le_of_ble_eq_true rfl) (Nat.le_of_ble_eq_true rfl) ?_
      refine W.widen (k := 1) (n := 3) (Nat.le_of_ble_eq_true rfl) (Nat.le_of_ble_eq_true rfl) ?_
      exact W.aret (v := .ref q1) hx hb hr (Or.inl ⟨_, rfl⟩) (Or.inr ⟨_, rfl⟩) (fun t ht hW => ⟨⟨(), q1, rfl, trivial, P_of ht hP, hD⟩, hS.F ht⟩) hS.2.2 dX6_born_60
def pre_X6_settle2 (j_ : Nat) (fr_ n_ : Int32) (F P : Nat) (σ0 : S_) : Prop := fr_ = nI F ∧ n_ = nI (4 * P + 1) ∧ P ≤ 6 ∧ ∃ L : Nat, L ≤ 60 ∧ rdI σ0 (16 + j_) = nI L ∧ F + (4 * P + 1) ≤ L
def post_X6_settle2 (j_ : Nat) (fr_ n_ : Int32) (F P : Nat) (σ0 σ : S_) : Prop := rdI σ 2 = nI P ∧ (rdI σ 3 = 0 ∧ rdI σ 4 = 0 ∧ rdI σ 5 = 0 ∧ rdI σ 6 = 0 ∧ rdI σ 7 = 0 ∧ rdI σ 8 = 0) ∧ (∀ k, (k < 2 ∨ 8 < k) → rdI σ k = rdI σ0 k) ∧ (∀ i, rdA σ i = rdA σ0 i) ∧ nH σ = P ∧ ∀ p, p < P → pg σ p = some (hget σ p).1 ∧ (hget σ p).2 = (clsL (rdA σ0 j_ (F + 4 * p + 2)), nI p, rdA σ0 j_ (F + 4 * p + 3) - 48, rdA σ0 j_ (F + 4 * p + 4) - 48)
def vl_X6_settle2_17 (j_ : Nat) (fr_ : Int32) (Q : S_ → Prop) : Nat → (Int32 → S_ → Prop)
  | 0 => fun _ _ => False
  | n17 + 1 => fun x3 σ4 => (((rdI σ4 2) ≤ x3) → ∀ σ5 : S_, post_X3_clear 0 σ4 σ5 → (∀ σ6 : S_, post_X3_clear 1 σ5 σ6 → (∀ σ7 : S_, post_X3_clear 2 σ6 σ7 → (∀ σ8 : S_, post_X3_clear 3 σ7 σ8 → (∀ σ9 : S_, σ9 = wrI σ8 3 0 → (∀ σ11 : S_, σ11 = wrI σ9 4 0 → (Q σ11))))))) ∧ ((¬ (rdI σ4 2) ≤ x3) → (pre_X5_at j_ ((fr_ + (x3 * 4)) + 2) σ4) ∧ ((pre_X5_at j_ (((fr_ + (x3 * 4)) + 2) + 1) σ4) ∧ ((pre_X5_at j_ (((fr_ + (x3 * 4)) + 2) + 2) σ4) ∧ ((vp_in x3 6) ∧ (∀ (q13 : Nat) (σ14 : S_), σ14 = bornS σ4 q13 x3 (fn_X5_at j_ ((fr_ + (x3 * 4)) + 2) σ4) ((fn_X5_at j_ (((fr_ + (x3 * 4)) + 2) + 1) σ4) - 48) ((fn_X5_at j_ (((fr_ + (x3 * 4)) + 2) + 2) σ4) - 48) → (vl_X6_settle2_17 j_ fr_ Q n17 (x3 + 1) σ14))))))
def vc_X6_settle2 (j_ : Nat) (fr_ : Int32) (n_ : Int32) (σ0 : S_) (Q : S_ → Prop) : Prop := ∀ σd : S_, σd = wrP σ0 (pg σ0) [] → ((¬ (4 : Int32) = 0) ∧ (∀ σ1 : S_, σ1 = wrI σd 2 (if 6 < ((n_ - 1) / 4) then 6 else ((n_ - 1) / 4)) → (∃ n17 : Nat, n17 ≤ 7 ∧ vl_X6_settle2_17 j_ fr_ Q n17 0 σ1)))
def Ct_X6_settle2 (l : Launch) : Prop := ∀ (D : va_G) (cy : Nat → ClassId) (ad : Nat → Nat) (A : Nat → Prop) (j_ : Nat) (fr_ : Int32) (n_ : Int32) (Fg : Nat) (Pg : Nat) (σ0 : S_), j_ < 4 → pre_X6_settle2 j_ fr_ n_ Fg Pg σ0 → Met l yX6_settle wsX6_settle ({ frames := 5, cells := 7, slots := 21, locals := 112 }) (va_Pc [.ref (ad 11), .ref (ad (2 + 2 * j_)), .int fr_, .int n_] (WdS D cy ad A σ0)) (va_Qv (post_X6_settle2 j_ fr_ n_ Fg Pg σ0) (fun u t => va_P D vwCl (wC cy ad u) t.heap ∧ va_D A (wC cy ad u)) A) 7 21 A
def Sp_X6_settle2 : Prop := ∀ (j_ : Nat) (fr_ : Int32) (n_ : Int32) (Fg : Nat) (Pg : Nat) (σ0 : S_), pre_X6_settle2 j_ fr_ n_ Fg Pg σ0 → vc_X6_settle2 j_ fr_ n_ σ0 (post_X6_settle2 j_ fr_ n_ Fg Pg σ0)
set_option maxHeartbeats 4000000 in
set_option maxRecDepth 100000 in
theorem wk_X6_settle (l : Launch) (h_X3_clear : Ct_X3_clear l) (h_X5_at : Ct_X5_at l) (sp : Sp_X6_settle2) : Ct_X6_settle2 l := by
  intro D cy ad A j_ fr_ n_ Fg Pg σ0 hj_j_ hpre
  refine Met.ofW (cc := cX6_settle) (maxL := 6) (ret := none) (by decide) rfl ?_
  intro p e s m args below meth c s₁ B hml hv0
  obtain ⟨rfl, ⟨hP, hK, hD, hN⟩, hCA, hA⟩ := hv0
  have hx := B.exec
  have hb := B.bytes
  have hr := B.returns
  have hts := atoms_spec (ws := wsX6_settle) B.pre
  have hown : s.vm.findClass RX6 = some m.cls := findClass_of_methodNamed B.named
  have hlocks := B.notSynchronized
  have hv := sp j_ fr_ n_ Fg Pg σ0 hpre
  have hl := lv_entry ([.ref (ad 11), .ref (ad (2 + 2 * j_)), .int fr_, .int n_]) (n := 6) (Nat.le_of_ble_eq_true rfl)
  rw [lg_entry_eq]
  generalize (lg_sl ([.ref (ad 11), .ref (ad (2 + 2 * j_)), .int fr_, .int n_]) ++ List.replicate (6 - (lg_sl ([.ref (ad 11), .ref (ad (2 + 2 * j_)), .int fr_, .int n_])).length) Slot.unset).toArray = ls at hl ⊢
  have hl : lv_has ls 6 [(0, .ref (ad 11)), (1, .ref (ad (2 + 2 * j_))), (2, .int fr_), (3, .int n_)] := hl
  refine W_gen (fun R Z H locs hR hZ hH hlo => ?_)
  have hRf : R.frames = 5 := by rw [hR]; rfl
  have hRl : R.locals = 112 := by rw [hR]; rfl
  have hRc : R.cells = 7 := by rw [hR]; rfl
  have hRs : R.slots = 21 := by rw [hR]; rfl
  have hS : va_S A s.heap H locs := by rw [hH, hlo]; exact va_S.rf
  rw [← hH] at hP
  obtain ⟨Q, hQ⟩ : ∃ q : S_ → Prop, q = (post_X6_settle2 j_ fr_ n_ Fg Pg σ0) := ⟨_, rfl⟩
  rw [← hQ] at hv
  obtain ⟨σd, ed⟩ : ∃ y : S_, y = wrP σ0 (pg σ0) [] := ⟨_, rfl⟩
  have hP : va_P D vwCl (wC cy ad σd) H := by rw [ed]; exact drop_P hP
  have hD : va_D A (wC cy ad σd) := by rw [ed]; exact drop_D hD
  have hv := hv σd ed
  have hinX6 : ∀ w ∈ wsX60, w ∈ wsX6_settle := by decide +kernel
  refine lv_aload_n hx hb dX6_settle_0 rfl (lv_at hl 0 rfl) ?_
  refine lv_iload_n hx hb dX6_settle_1 rfl (lv_at hl 3 rfl) ?_
  refine lv_iconst (v := 1) hx hb dX6_settle_2 (by decide) ?_
  refine lv_isub hx hb dX6_settle_3 ?_
  refine lv_iconst (v := 4) hx hb dX6_settle_4 (by decide) ?_
  obtain ⟨hne, hv⟩ := hv
  refine lv_idiv hx hb dX6_settle_5 hne ?_
  refine lv_bipush (v := 6) hx hb dX6_settle_6 (by decide) ?_
  refine va_mmin hx hb (hml.trans hl.1.symm) hown (hts (.methodLink RX6 45 Lib.Math.min.name) (List.mem_of_getElem? (i := 1) rfl)) (hts (.static Lib.Math.min.name) (List.mem_of_getElem? (i := 2) rfl)) (hts (.initialized "java/lang/Math") (List.mem_of_getElem? (i := 3) rfl)) (hts (.code Lib.Math.min.name Lib.Math.min.code 2 (some .int)) (List.mem_of_getElem? (i := 4) rfl)) (le_R hRf (Nat.le_of_ble_eq_true rfl)) (le_R hRl (Nat.le_of_ble_eq_true rfl)) (le_R hRc (Nat.le_of_ble_eq_true rfl)) (le_R hRs (Nat.le_of_ble_eq_true rfl)) dX6_settle_8 ?_
  refine va_put (ci := 6) (v := .int (if 6 < ((n_ - 1) / 4) then 6 else ((n_ - 1) / 4))) (ty := .int) (C := RX6) (T := TX6) (N := 8) hx hb hts hinX6 tyX6 tyX6_ok nmX6 hown hK hP hD hS 11 (wC_11 cy ad σd) rfl 5 (by decide) (hts (.fieldLink RX6 51 "TaleBans$Steppe" "persons" "I") (List.mem_of_getElem? (i := 5) rfl)) (fun x h => h) rfl (by decide +kernel) rfl rfl (Nat.le_of_ble_eq_true rfl) dX6_settle_11 (fun H locs hP hD hS => ?_)
  obtain ⟨σ1, e2⟩ : ∃ y : S_, y = wrI σd 2 (if 6 < ((n_ - 1) / 4) then 6 else ((n_ - 1) / 4)) := ⟨_, rfl⟩
  have hP : va_P D vwCl (wC cy ad σ1) H := by rw [e2]; exact hP
  have hD : va_D A (wC cy ad σ1) := by rw [e2]; exact hD
  have hv := hv σ1 e2
  refine lv_iconst (v := 0) hx hb dX6_settle_14 (by decide) ?_
  refine lv_istore (lv' := [(4, .int 0), (0, .ref (ad 11)), (1, .ref (ad (2 + 2 * j_))), (2, .int fr_), (3, .int n_)]) hx hb dX6_settle_15 hl (by decide) rfl (fun ls hl => ?_)
  obtain ⟨n17, hn17, hv⟩ := hv
  have lp17 : ∀ (nn17 : Nat) (cc : Nat) (x3 : Int32) (σ4 : S_) (H : Heap) (locs : List Loc) (ls : Array Slot), cc + nn17 ≤ 7 → vl_X6_settle2_17 j_ fr_ Q nn17 x3 σ4 → va_P D vwCl (wC cy ad σ4) H → va_D A (wC cy ad σ4) → va_S A s.heap H locs → lv_has ls 6 [(0, .ref (ad 11)), (1, .ref (ad (2 + 2 * j_))), (2, .int fr_), (4, .int x3)] → W p l e R s m ([.ref (ad 11), .ref (ad (2 + 2 * j_)), .int fr_, .int n_] : List Value).toArray  below meth c H locs cc (3 * cc) Z (F0 m 17 ls []) := by
    intro nn17
    induction nn17 with
    | zero => intro cc x3 σ4 H locs ls hcc hv; exact absurd hv id
    | succ mm17 ih17 =>
      intro cc x3 σ4 H locs ls hcc hv hP hD hS hl
      refine lv_iload hx hb dX6_settle_17 (lv_at hl 3 rfl) ?_
      refine lv_aload_n hx hb dX6_settle_19 rfl (lv_at hl 0 rfl) ?_
      refine va_get (ci := 6) (v := .int (rdI σ4 2)) (C := RX6) (T := TX6) (N := 8) hx hb hts hinX6 hown hK hP 11 (wC_11 cy ad σ4) rfl 5 (by decide) (hts (.fieldLink RX6 51 "TaleBans$Steppe" "persons" "I") (List.mem_of_getElem? (i := 5) rfl)) (fun x h => h) rfl dX6_settle_20 ?_
      refine lv_icmp_ge (tgt := 82) hx hb dX6_settle_23 (by decide) (fun c16 => ?_) (fun c16 => ?_)
      · have hv := hv.1 c16
        refine lv_aload_n hx hb dX6_settle_82 rfl (lv_at hl 0 rfl) ?_
        refine va_get (ci := 6) (v := .ref (ad (13))) (C := RX6) (T := TX6) (N := 8) hx hb hts hinX6 hown hK hP 11 (wC_11 cy ad σ4) rfl 1 (by decide) (hts (.fieldLink RX6 22 "TaleBans$Steppe" "tales" "LTaleBans$Ledger;") (List.mem_of_getElem? (i := 7) rfl)) (fun x h => h) rfl dX6_settle_83 ?_
        have hp := True.intro
        refine k_rel_v (w := wC cy ad) (va_runVN (As := []) (rest := []) ⟨hx, hb, hml, hown, hts⟩ (h_X3_clear D cy ad A 0 σ4 (show 0 < 4 by decide) hp) ⟨va_cnB 0 hts gX6_settle_X3_clear_n59 rfl rfl rfl (nwm_34 hN) (hts (.initialized RX3) (List.mem_of_getElem? (i := 52) rfl)) (by decide +kernel) ⟨le_R hRf (Nat.le_of_ble_eq_true rfl), le_R hRl (Nat.le_of_ble_eq_true rfl)⟩, (hts (.instanceMethod yX3_clear) (List.mem_of_getElem? (i := 51) rfl)), (hts (.selects RX3 yX3_clear yX3_clear) (List.mem_of_getElem? (i := 53) rfl))⟩ ⟨(fun a U g mk q => ⟨q.1, q.2.blind⟩), va_recv hK hP (ci := 3) (q0 := 13) rfl (wC_13 cy ad σ4), (fun U hU hW => ⟨rfl, WdC.pre hP hK hD hN hU hW⟩)⟩ rfl rfl hl.1 rfl (lv_room (Nat.le_of_ble_eq_true rfl)) dX6_settle_86 ⟨le_R hRc (by omega), le_R hRs (by omega)⟩) hS (fun σ5 H locs hr1 hP hD hS => ?_)
        have hv := hv σ5 hr1
        refine lv_aload_n hx hb dX6_settle_89 rfl (lv_at hl 0 rfl) ?_
        refine va_get (ci := 6) (v := .ref (ad (15))) (C := RX6) (T := TX6) (N := 8) hx hb hts hinX6 hown hK hP 11 (wC_11 cy ad σ5) rfl 2 (by decide) (hts (.fieldLink RX6 26 "TaleBans$Steppe" "moves" "LTaleBans$Ledger;") (List.mem_of_getElem? (i := 8) rfl)) (fun x h => h) rfl dX6_settle_90 ?_
        have hp := True.intro
        refine k_rel_v (w := wC cy ad) (va_runVN (As := []) (rest := []) ⟨hx, hb, hml, hown, hts⟩ (h_X3_clear D cy ad A 1 σ5 (show 1 < 4 by decide) hp) ⟨va_cnB 0 hts gX6_settle_X3_clear_n59 rfl rfl rfl (nwm_34 hN) (hts (.initialized RX3) (List.mem_of_getElem? (i := 52) rfl)) (by decide +kernel) ⟨le_R hRf (Nat.le_of_ble_eq_true rfl), le_R hRl (Nat.le_of_ble_eq_true rfl)⟩, (hts (.instanceMethod yX3_clear) (List.mem_of_getElem? (i := 51) rfl)), (hts (.selects RX3 yX3_clear yX3_clear) (List.mem_of_getElem? (i := 53) rfl))⟩ ⟨(fun a U g mk q => ⟨q.1, q.2.blind⟩), va_recv hK hP (ci := 3) (q0 := 15) rfl (wC_15 cy ad σ5), (fun U hU hW => ⟨rfl, WdC.pre hP hK hD hN hU hW⟩)⟩ rfl rfl hl.1 rfl (lv_room (Nat.le_of_ble_eq_true rfl)) dX6_settle_93 ⟨le_R hRc (by omega), le_R hRs (by omega)⟩) hS (fun σ6 H locs hr1 hP hD hS => ?_)
        have hv := hv σ6 hr1
        refine lv_aload_n hx hb dX6_settle_96 rfl (lv_at hl 0 rfl) ?_
        refine va_get (ci := 6) (v := .ref (ad (17))) (C := RX6) (T := TX6) (N := 8) hx hb hts hinX6 hown hK hP 11 (wC_11 cy ad σ6) rfl 3 (by decide) (hts (.fieldLink RX6 29 "TaleBans$Steppe" "needs" "LTaleBans$Ledger;") (List.mem_of_getElem? (i := 9) rfl)) (fun x h => h) rfl dX6_settle_97 ?_
        have hp := True.intro
        refine k_rel_v (w := wC cy ad) (va_runVN (As := []) (rest := []) ⟨hx, hb, hml, hown, hts⟩ (h_X3_clear D cy ad A 2 σ6 (show 2 < 4 by decide) hp) ⟨va_cnB 0 hts gX6_settle_X3_clear_n59 rfl rfl rfl (nwm_34 hN) (hts (.initialized RX3) (List.mem_of_getElem? (i := 52) rfl)) (by decide +kernel) ⟨le_R hRf (Nat.le_of_ble_eq_true rfl), le_R hRl (Nat.le_of_ble_eq_true rfl)⟩, (hts (.instanceMethod yX3_clear) (List.mem_of_getElem? (i := 51) rfl)), (hts (.selects RX3 yX3_clear yX3_clear) (List.mem_of_getElem? (i := 53) rfl))⟩ ⟨(fun a U g mk q => ⟨q.1, q.2.blind⟩), va_recv hK hP (ci := 3) (q0 := 17) rfl (wC_17 cy ad σ6), (fun U hU hW => ⟨rfl, WdC.pre hP hK hD hN hU hW⟩)⟩ rfl rfl hl.1 rfl (lv_room (Nat.le_of_ble_eq_true rfl)) dX6_settle_100 ⟨le_R hRc (by omega), le_R hRs (by omega)⟩) hS (fun σ7 H locs hr1 hP hD hS => ?_)
        have hv := hv σ7 hr1
        refine lv_aload_n hx hb dX6_settle_103 rfl (lv_at hl 0 rfl) ?_
        refine va_get (ci := 6) (v := .ref (ad (19))) (C := RX6) (T := TX6) (N := 8) hx hb hts hinX6 hown hK hP 11 (wC_11 cy ad σ7) rfl 4 (by decide) (hts (.fieldLink RX6 32 "TaleBans$Steppe" "readings" "LTaleBans$Ledger;") (List.mem_of_getElem? (i := 10) rfl)) (fun x h => h) rfl dX6_settle_104 ?_
        have hp := True.intro
        refine k_rel_v (w := wC cy ad) (va_runVN (As := []) (rest := []) ⟨hx, hb, hml, hown, hts⟩ (h_X3_clear D cy ad A 3 σ7 (show 3 < 4 by decide) hp) ⟨va_cnB 0 hts gX6_settle_X3_clear_n59 rfl rfl rfl (nwm_34 hN) (hts (.initialized RX3) (List.mem_of_getElem? (i := 52) rfl)) (by decide +kernel) ⟨le_R hRf (Nat.le_of_ble_eq_true rfl), le_R hRl (Nat.le_of_ble_eq_true rfl)⟩, (hts (.instanceMethod yX3_clear) (List.mem_of_getElem? (i := 51) rfl)), (hts (.selects RX3 yX3_clear yX3_clear) (List.mem_of_getElem? (i := 53) rfl))⟩ ⟨(fun a U g mk q => ⟨q.1, q.2.blind⟩), va_recv hK hP (ci := 3) (q0 := 19) rfl (wC_19 cy ad σ7), (fun U hU hW => ⟨rfl, WdC.pre hP hK hD hN hU hW⟩)⟩ rfl rfl hl.1 rfl (lv_room (Nat.le_of_ble_eq_true rfl)) dX6_settle_107 ⟨le_R hRc (by omega), le_R hRs (by omega)⟩) hS (fun σ8 H locs hr1 hP hD hS => ?_)
        have hv := hv σ8 hr1
        refine lv_aload_n hx hb dX6_settle_110 rfl (lv_at hl 0 rfl) ?_
        refine lv_iconst (v := 0) hx hb dX6_settle_111 (by decide) ?_
        refine va_put (ci := 6) (v := .int 0) (ty := .int) (C := RX6) (T := TX6) (N := 8) hx hb hts hinX6 tyX6 tyX6_ok nmX6 hown hK hP hD hS 11 (wC_11 cy ad σ8) rfl 6 (by decide) (hts (.fieldLink RX6 62 "TaleBans$Steppe" "paid" "I") (List.mem_of_getElem? (i := 11) rfl)) (fun x h => h) rfl (by decide +kernel) rfl rfl (Nat.le_of_ble_eq_true rfl) dX6_settle_112 (fun H locs hP hD hS => ?_)
        obtain ⟨σ9, e10⟩ : ∃ y : S_, y = wrI σ8 3 0 := ⟨_, rfl⟩
        have hP : va_P D vwCl (wC cy ad σ9) H := by rw [e10]; exact hP
        have hD : va_D A (wC cy ad σ9) := by rw [e10]; exact hD
        have hv := hv σ9 e10
        refine lv_aload_n hx hb dX6_settle_115 rfl (lv_at hl 0 rfl) ?_
        refine lv_iconst (v := 0) hx hb dX6_settle_116 (by decide) ?_
        refine va_put (ci := 6) (v := .int 0) (ty := .int) (C := RX6) (T := TX6) (N := 8) hx hb hts hinX6 tyX6 tyX6_ok nmX6 hown hK hP hD hS 11 (wC_11 cy ad σ9) rfl 7 (by decide) (hts (.fieldLink RX6 65 "TaleBans$Steppe" "law" "I") (List.mem_of_getElem? (i := 12) rfl)) (fun x h => h) rfl (by decide +kernel) rfl rfl (Nat.le_of_ble_eq_true rfl) dX6_settle_117 (fun H locs hP hD hS => ?_)
        obtain ⟨σ11, e12⟩ : ∃ y : S_, y = wrI σ9 4 0 := ⟨_, rfl⟩
        have hP : va_P D vwCl (wC cy ad σ11) H := by rw [e12]; exact hP
        have hD : va_D A (wC cy ad σ11) := by rw [e12]; exact hD
        have hv := hv σ11 e12
        rw [hZ]; rw [hQ] at hv
        refine W.widen (k := 7) (n := 21) (by omega) (by omega) ?_
        exact W.vret hx hb hr (fun t ht hW => ⟨⟨σ11, rfl, hv, ⟨P_of ht hP, hD⟩⟩, hS.F ht⟩) hS.2.2 dX6_settle_120
      · have hv := hv.2 c16
        refine lv_iload_n hx hb dX6_settle_26 rfl (lv_at hl 2 rfl) ?_
        refine lv_iload hx hb dX6_settle_27 (lv_at hl 3 rfl) ?_
        refine lv_iconst (v := 4) hx hb dX6_settle_29 (by decide) ?_
        refine lv_imul hx hb dX6_settle_30 ?_
        refine lv_iadd hx hb dX6_settle_31 ?_
        refine lv_iconst (v := 2) hx hb dX6_settle_32 (by decide) ?_
        refine lv_iadd hx hb dX6_settle_33 ?_
        refine lv_istore (lv' := [(5, .int ((fr_ + (x3 * 4)) + 2)), (0, .ref (ad 11)), (1, .ref (ad (2 + 2 * j_))), (2, .int fr_), (4, .int x3)]) hx hb dX6_settle_34 hl (by decide) rfl (fun ls hl => ?_)
        refine lv_aload_n hx hb dX6_settle_36 rfl (lv_at hl 1 rfl) ?_
        refine va_get (ci := 6) (v := .ref (ad 12)) (C := RX6) (T := TX6) (N := 8) hx hb hts hinX6 hown hK hP 11 (wC_11 cy ad σ4) rfl 0 (by decide) (hts (.fieldLink RX6 11 "TaleBans$Steppe" "people" "[LTaleBans$Herder;") (List.mem_of_getElem? (i := 6) rfl)) (fun x h => h) rfl dX6_settle_37 ?_
        refine lv_iload hx hb dX6_settle_40 (lv_at hl 4 rfl) ?_
        refine lv_iload hx hb dX6_settle_42 (lv_at hl 4 rfl) ?_
        refine lv_aload_n hx hb dX6_settle_44 rfl (lv_at hl 2 rfl) ?_
        refine lv_iload hx hb dX6_settle_45 (lv_at hl 0 rfl) ?_
        obtain ⟨hp, hv⟩ := hv
        refine k_read_i (w := wC cy ad) (va_runVN (As := [.int ((fr_ + (x3 * 4)) + 2)]) (rest := [.int x3, .int x3, .ref (ad 12)]) ⟨hx, hb, hml, hown, hts⟩ (h_X5_at D cy ad A j_ ((fr_ + (x3 * 4)) + 2) σ4 hj_j_ hp) ⟨va_cnB 1 hts gX6_settle_X5_at_n35 rfl rfl rfl (nwm_26 hN) (hts (.initialized RX5) (List.mem_of_getElem? (i := 14) rfl)) (by decide +kernel) ⟨le_R hRf (Nat.le_of_ble_eq_true rfl), le_R hRl (Nat.le_of_ble_eq_true rfl)⟩, (hts (.instanceMethod yX5_at) (List.mem_of_getElem? (i := 13) rfl)), (hts (.selects RX5 yX5_at yX5_at) (List.mem_of_getElem? (i := 15) rfl))⟩ ⟨(fun a U g mk q => ⟨q.1, q.2.blind⟩), va_recv hK hP (ci := 5) (q0 := (2 + 2 * j_)) rfl (wC_sh cy ad σ4 hj_j_), (fun U hU hW => ⟨rfl, WdC.pre hP hK hD hN hU hW⟩)⟩ rfl rfl hl.1 rfl (lv_room (Nat.le_of_ble_eq_true rfl)) dX6_settle_47 ⟨le_R hRc (by omega), le_R hRs (by omega)⟩) hS (fun r H locs hr1 hP hS => ?_)
        subst hr1
        refine lv_aload_n hx hb dX6_settle_50 rfl (lv_at hl 2 rfl) ?_
        refine lv_iload hx hb dX6_settle_51 (lv_at hl 0 rfl) ?_
        refine lv_iconst (v := 1) hx hb dX6_settle_53 (by decide) ?_
        refine lv_iadd hx hb dX6_settle_54 ?_
        obtain ⟨hp, hv⟩ := hv
        refine k_read_i (w := wC cy ad) (va_runVN (As := [.int (((fr_ + (x3 * 4)) + 2) + 1)]) (rest := [.int (fn_X5_at j_ ((fr_ + (x3 * 4)) + 2) σ4), .int x3, .int x3, .ref (ad 12)]) ⟨hx, hb, hml, hown, hts⟩ (h_X5_at D cy ad A j_ (((fr_ + (x3 * 4)) + 2) + 1) σ4 hj_j_ hp) ⟨va_cnB 1 hts gX6_settle_X5_at_n35 rfl rfl rfl (nwm_26 hN) (hts (.initialized RX5) (List.mem_of_getElem? (i := 14) rfl)) (by decide +kernel) ⟨le_R hRf (Nat.le_of_ble_eq_true rfl), le_R hRl (Nat.le_of_ble_eq_true rfl)⟩, (hts (.instanceMethod yX5_at) (List.mem_of_getElem? (i := 13) rfl)), (hts (.selects RX5 yX5_at yX5_at) (List.mem_of_getElem? (i := 15) rfl))⟩ ⟨(fun a U g mk q => ⟨q.1, q.2.blind⟩), va_recv hK hP (ci := 5) (q0 := (2 + 2 * j_)) rfl (wC_sh cy ad σ4 hj_j_), (fun U hU hW => ⟨rfl, WdC.pre hP hK hD hN hU hW⟩)⟩ rfl rfl hl.1 rfl (lv_room (Nat.le_of_ble_eq_true rfl)) dX6_settle_55 ⟨le_R hRc (by omega), le_R hRs (by omega)⟩) hS (fun r H locs hr1 hP hS => ?_)
        subst hr1
        refine lv_bipush (v := 48) hx hb dX6_settle_58 (by decide) ?_
        refine lv_isub hx hb dX6_settle_60 ?_
        refine lv_aload_n hx hb dX6_settle_61 rfl (lv_at hl 2 rfl) ?_
        refine lv_iload hx hb dX6_settle_62 (lv_at hl 0 rfl) ?_
        refine lv_iconst (v := 2) hx hb dX6_settle_64 (by decide) ?_
        refine lv_iadd hx hb dX6_settle_65 ?_
        obtain ⟨hp, hv⟩ := hv
        refine k_read_i (w := wC cy ad) (va_runVN (As := [.int (((fr_ + (x3 * 4)) + 2) + 2)]) (rest := [.int ((fn_X5_at j_ (((fr_ + (x3 * 4)) + 2) + 1) σ4) - 48), .int (fn_X5_at j_ ((fr_ + (x3 * 4)) + 2) σ4), .int x3, .int x3, .ref (ad 12)]) ⟨hx, hb, hml, hown, hts⟩ (h_X5_at D cy ad A j_ (((fr_ + (x3 * 4)) + 2) + 2) σ4 hj_j_ hp) ⟨va_cnB 1 hts gX6_settle_X5_at_n35 rfl rfl rfl (nwm_26 hN) (hts (.initialized RX5) (List.mem_of_getElem? (i := 14) rfl)) (by decide +kernel) ⟨le_R hRf (Nat.le_of_ble_eq_true rfl), le_R hRl (Nat.le_of_ble_eq_true rfl)⟩, (hts (.instanceMethod yX5_at) (List.mem_of_getElem? (i := 13) rfl)), (hts (.selects RX5 yX5_at yX5_at) (List.mem_of_getElem? (i := 15) rfl))⟩ ⟨(fun a U g mk q => ⟨q.1, q.2.blind⟩), va_recv hK hP (ci := 5) (q0 := (2 + 2 * j_)) rfl (wC_sh cy ad σ4 hj_j_), (fun U hU hW => ⟨rfl, WdC.pre hP hK hD hN hU hW⟩)⟩ rfl rfl hl.1 rfl (lv_room (Nat.le_of_ble_eq_true rfl)) dX6_settle_66 ⟨le_R hRc (by omega), le_R hRs (by omega)⟩) hS (fun r H locs hr1 hP hS => ?_)
        subst hr1
        refine lv_bipush (v := 48) hx hb dX6_settle_69 (by decide) ?_
        refine lv_isub hx hb dX6_settle_71 ?_
        obtain ⟨hi, hv⟩ := hv
        refine k_born (h := .inr (clsL (fn_X5_at j_ ((fr_ + (x3 * 4)) + 2) σ4), [.int x3, .int ((fn_X5_at j_ (((fr_ + (x3 * 4)) + 2) + 1) σ4) - 48), .int ((fn_X5_at j_ (((fr_ + (x3 * 4)) + 2) + 2) σ4) - 48)])) (va_runS (As := [.int x3, .int (fn_X5_at j_ ((fr_ + (x3 * 4)) + 2) σ4), .int ((fn_X5_at j_ (((fr_ + (x3 * 4)) + 2) + 1) σ4) - 48), .int ((fn_X5_at j_ (((fr_ + (x3 * 4)) + 2) + 2) σ4) - 48)]) (rest := [.int x3, .ref (ad 12)]) ⟨hx, hb, hml, hown, hts⟩ (wk_X6_born l D cy x3 (fn_X5_at j_ ((fr_ + (x3 * 4)) + 2) σ4) ((fn_X5_at j_ (((fr_ + (x3 * 4)) + 2) + 1) σ4) - 48) ((fn_X5_at j_ (((fr_ + (x3 * 4)) + 2) + 2) σ4) - 48) H.size) (va_cwS 4 hts gX6_settle_X6_born rfl rfl rfl (by decide +kernel) ⟨le_R hRf (Nat.le_of_ble_eq_true rfl), le_R hRl (Nat.le_of_ble_eq_true rfl)⟩) ⟨(fun a U g mk q => ⟨q.1, q.2.blind⟩), (fun U hU hW => ⟨rfl, MkS.pre nil_P (nil_D (A := A)) ⟨hK, hN⟩ hU hW⟩)⟩ rfl rfl hl.1 rfl (lv_room (Nat.le_of_ble_eq_true rfl)) dX6_settle_72 ⟨le_R hRc (by omega), le_R hRs (by omega)⟩) hS hA hP hD (fun q13 H locs hP hD hS => ?_)
        have hP : va_P D vwCl (wC cy ad (pushH σ4 (q13, clsL (fn_X5_at j_ ((fr_ + (x3 * 4)) + 2) σ4), x3, ((fn_X5_at j_ (((fr_ + (x3 * 4)) + 2) + 1) σ4) - 48), ((fn_X5_at j_ (((fr_ + (x3 * 4)) + 2) + 2) σ4) - 48)))) H := (wC_push cy ad σ4 (q13, clsL (fn_X5_at j_ ((fr_ + (x3 * 4)) + 2) σ4), x3, ((fn_X5_at j_ (((fr_ + (x3 * 4)) + 2) + 1) σ4) - 48), ((fn_X5_at j_ (((fr_ + (x3 * 4)) + 2) + 2) σ4) - 48))) ▸ hP
        have hD : va_D A (wC cy ad (pushH σ4 (q13, clsL (fn_X5_at j_ ((fr_ + (x3 * 4)) + 2) σ4), x3, ((fn_X5_at j_ (((fr_ + (x3 * 4)) + 2) + 1) σ4) - 48), ((fn_X5_at j_ (((fr_ + (x3 * 4)) + 2) + 2) σ4) - 48)))) := (wC_push cy ad σ4 (q13, clsL (fn_X5_at j_ ((fr_ + (x3 * 4)) + 2) σ4), x3, ((fn_X5_at j_ (((fr_ + (x3 * 4)) + 2) + 1) σ4) - 48), ((fn_X5_at j_ (((fr_ + (x3 * 4)) + 2) + 2) σ4) - 48))) ▸ hD
        refine k_ast hx hb hK hCA hP hD hS (q := nH σ4) (pushH_lt _ _) (pushH_get _ _) hi (clsL_isC _) dX6_settle_75 (fun H locs hP hD hS => ?_)
        obtain ⟨σ14, e15⟩ : ∃ y : S_, y = bornS σ4 q13 x3 (fn_X5_at j_ ((fr_ + (x3 * 4)) + 2) σ4) ((fn_X5_at j_ (((fr_ + (x3 * 4)) + 2) + 1) σ4) - 48) ((fn_X5_at j_ (((fr_ + (x3 * 4)) + 2) + 2) σ4) - 48) := ⟨_, rfl⟩
        have hP : va_P D vwCl (wC cy ad σ14) H := by rw [e15]; exact hP
        have hD : va_D A (wC cy ad σ14) := by rw [e15]; exact hD
        have hv := hv q13 σ14 e15
        refine W.widen (k := cc + 1) (n := 3 * (cc + 1)) (by omega) (by omega) ?_
        refine lv_iinc (v := (x3 + 1)) (lv' := [(4, .int (x3 + 1)), (5, .int ((fr_ + (x3 * 4)) + 2)), (0, .ref (ad 11)), (1, .ref (ad (2 + 2 * j_))), (2, .int fr_)]) hx hb dX6_settle_76 hl (k := 4) rfl rfl (by decide) rfl (fun ls hl => ?_)
        refine lv_goto (tgt := 17) hx hb dX6_settle_79 (by decide) ?_
        exact ih17 (cc + 1) (x3 + 1) σ14 _ _ _ (by omega) hv hP hD hS (lv_sub hl [2, 3, 4, 0] rfl)
  exact lp17 n17 0 0 σ1 _ _ _ (by omega) hv hP hD hS (lv_sub hl [1, 2, 3, 0] rfl)
def vc_X8_steppe2 (sh_ : Int32) (lane_ : Int32) (i_ : Int32) (n_ : Int32) (σ0 : S_) (Q : Int32 → S_ → Prop) : Prop := ∀ σ1 : S_, σ1 = wrI σ0 0 0 → (((fn_X8_sheetAt sh_ σ1) = none → Q (-1) σ1) ∧ (∀ j3 : Nat, (fn_X8_sheetAt sh_ σ1) = some j3 → (j3 < 4) ∧ ((¬ (fn_X8_isOneOf lane_ 3) = 0) → (((fn_X5_faultOfTaking j3 lane_ i_ n_ σ1) = 0) → ∃ g5 : Nat, ∃ g6 : Nat, (pre_X6_firstFault j3 i_ n_ g5 g6 σ1) ∧ (∀ r7 : Int32, post_X6_firstFault j3 i_ n_ g5 g6 σ1 r7 → (((r7 = (-9)) → ∃ g8 : Nat, ∃ g9 : Nat, (pre_X6_settle2 j3 i_ n_ g8 g9 σ1) ∧ (∀ σ10 : S_, post_X6_settle2 j3 i_ n_ g8 g9 σ1 σ10 → (Q (rdI σ10 2) σ10))) ∧ ((¬ r7 = (-9)) → Q ((-100) - r7) σ1)))) ∧ ((¬ (fn_X5_faultOfTaking j3 lane_ i_ n_ σ1) = 0) → ∀ (r13 : Int32) (σ12 : S_), post_X8_faulted (fn_X5_faultOfTaking j3 lane_ i_ n_ σ1) σ1 r13 σ12 → (Q r13 σ12))) ∧ (((fn_X8_isOneOf lane_ 3) = 0) → Q (-2) σ1)))
def Ct_X8_steppe2 (l : Launch) : Prop := ∀ (D : va_G) (cy : Nat → ClassId) (ad : Nat → Nat) (A : Nat → Prop) (sh_ : Int32) (lane_ : Int32) (i_ : Int32) (n_ : Int32) (ag : AS) (σ0 : S_), pre_X8_steppe sh_ lane_ i_ n_ ag σ0 → Met l yX8_steppe wsX8_steppe ({ frames := 6, cells := 7, slots := 21, locals := 137 }) (va_Pc [.ref (ad 0), .int sh_, .int lane_, .int i_, .int n_] (WdS D cy ad A σ0)) (va_Qi (post_X8_steppe sh_ lane_ i_ n_ ag σ0) (fun u t => va_P D vwCl (wC cy ad u) t.heap ∧ va_D A (wC cy ad u)) A) 7 21 A
def Sp_X8_steppe2 : Prop := ∀ (sh_ : Int32) (lane_ : Int32) (i_ : Int32) (n_ : Int32) (ag : AS) (σ0 : S_), pre_X8_steppe sh_ lane_ i_ n_ ag σ0 → vc_X8_steppe2 sh_ lane_ i_ n_ σ0 (post_X8_steppe sh_ lane_ i_ n_ ag σ0)
set_option maxHeartbeats 4000000 in
set_option maxRecDepth 100000 in
theorem wk_X8_steppe (l : Launch) (h_X5_faultOfTaking : Ct_X5_faultOfTaking l) (h_X6_firstFault : Ct_X6_firstFault l) (h_X6_settle : Ct_X6_settle2 l) (h_X8_faulted : Ct_X8_faulted l) (h_X8_isOneOf : Ct_X8_isOneOf l) (h_X8_sheetAt : Ct_X8_sheetAt l) (sp : Sp_X8_steppe2) : Ct_X8_steppe2 l := by
  intro D cy ad A sh_ lane_ i_ n_ ag σ0  hpre
  refine Met.ofW (cc := cX8_steppe) (maxL := 8) (ret := (some .int)) (by decide) rfl ?_
  intro p e s m args below meth c s₁ B hml hv0
  obtain ⟨rfl, ⟨hP, hK, hD, hN⟩, hCA, hA⟩ := hv0
  have hx := B.exec
  have hb := B.bytes
  have hr := B.returns
  have hts := atoms_spec (ws := wsX8_steppe) B.pre
  have hown : s.vm.findClass RX8 = some m.cls := findClass_of_methodNamed B.named
  have hlocks := B.notSynchronized
  have hv := sp sh_ lane_ i_ n_ ag σ0 hpre
  have hl := lv_entry ([.ref (ad 0), .int sh_, .int lane_, .int i_, .int n_]) (n := 8) (Nat.le_of_ble_eq_true rfl)
  rw [lg_entry_eq]
  generalize (lg_sl ([.ref (ad 0), .int sh_, .int lane_, .int i_, .int n_]) ++ List.replicate (8 - (lg_sl ([.ref (ad 0), .int sh_, .int lane_, .int i_, .int n_])).length) Slot.unset).toArray = ls at hl ⊢
  have hl : lv_has ls 8 [(0, .ref (ad 0)), (1, .int sh_), (2, .int lane_), (3, .int i_), (4, .int n_)] := hl
  refine W_gen (fun R Z H locs hR hZ hH hlo => ?_)
  have hRf : R.frames = 6 := by rw [hR]; rfl
  have hRl : R.locals = 137 := by rw [hR]; rfl
  have hRc : R.cells = 7 := by rw [hR]; rfl
  have hRs : R.slots = 21 := by rw [hR]; rfl
  have hS : va_S A s.heap H locs := by rw [hH, hlo]; exact va_S.rf
  rw [← hH] at hP
  obtain ⟨Q, hQ⟩ : ∃ q : Int32 → S_ → Prop, q = (post_X8_steppe sh_ lane_ i_ n_ ag σ0) := ⟨_, rfl⟩
  rw [← hQ] at hv
  have hinX6 : ∀ w ∈ wsX60, w ∈ wsX8_steppe := by decide +kernel
  have hinX8 : ∀ w ∈ wsX80, w ∈ wsX8_steppe := by decide +kernel
  refine lv_aload_n hx hb dX8_steppe_0 rfl (lv_at hl 0 rfl) ?_
  refine lv_iconst (v := 0) hx hb dX8_steppe_1 (by decide) ?_
  refine va_put (ci := 8) (v := .int 0) (ty := .int) (C := RX8) (T := TX8) (N := 5) hx hb hts hinX8 tyX8 tyX8_ok nmX8 hown hK hP hD hS 0 (wC_0 cy ad σ0) rfl 4 (by decide) (hts (.fieldLink RX8 41 "TaleBans" "latestFault" "I") (List.mem_of_getElem? (i := 1) rfl)) (fun x h => h) rfl (by decide +kernel) rfl rfl (Nat.le_of_ble_eq_true rfl) dX8_steppe_2 (fun H locs hP hD hS => ?_)
  obtain ⟨σ1, e2⟩ : ∃ y : S_, y = wrI σ0 0 0 := ⟨_, rfl⟩
  have hP : va_P D vwCl (wC cy ad σ1) H := by rw [e2]; exact hP
  have hD : va_D A (wC cy ad σ1) := by rw [e2]; exact hD
  have hv := hv σ1 e2
  refine lv_aload_n hx hb dX8_steppe_5 rfl (lv_at hl 0 rfl) ?_
  refine lv_iload_n hx hb dX8_steppe_6 rfl (lv_at hl 1 rfl) ?_
  have hp := True.intro
  refine k_read_e (w := wC cy ad) (va_runV (As := [.int sh_]) (rest := []) ⟨hx, hb, hml, hown, hts⟩ (h_X8_sheetAt D cy ad A sh_ σ1 hp) (cwV 1 hts gX8_steppe_X8_sheetAt rfl rfl rfl (by decide +kernel) ⟨le_R hRf (Nat.le_of_ble_eq_true rfl), le_R hRl (Nat.le_of_ble_eq_true rfl)⟩) ⟨(fun a U g mk q => ⟨q.1, q.2.blind⟩), va_recv hK hP (ci := 8) (q0 := 0) rfl (wC_0 cy ad σ1), (fun U hU hW => ⟨rfl, WdC.pre hP hK hD hN hU hW⟩)⟩ rfl rfl hl.1 rfl (lv_room (Nat.le_of_ble_eq_true rfl)) dX8_steppe_7 ⟨le_R hRc (Nat.le_of_ble_eq_true rfl), le_R hRs (Nat.le_of_ble_eq_true rfl)⟩) hS (fun r H locs hr1 hP hS => ?_)
  subst hr1
  cases o4 : (fn_X8_sheetAt sh_ σ1) with
  | none =>
    have hv := hv.1 o4
    refine W_top (v' := .null) rfl ?_
    refine lv_astoreN (lv' := [(5, .null), (0, .ref (ad 0)), (1, .int sh_), (2, .int lane_), (3, .int i_), (4, .int n_)]) hx hb dX8_steppe_10 hl (by decide) rfl (fun ls hl => ?_)
    refine lv_aloadN hx hb dX8_steppe_12 (lv_at hl 0 rfl) ?_
    refine lv_ifnonnullN hx hb dX8_steppe_14 ?_
    refine lv_iconst (v := (-1)) hx hb dX8_steppe_17 (by decide) ?_
    rw [hZ]; rw [hQ] at hv
    refine W.widen (k := 7) (n := 21) (Nat.le_of_ble_eq_true rfl) (Nat.le_of_ble_eq_true rfl) ?_
    exact W.iret (v := (-1)) hx hb hr (fun t ht hW => ⟨⟨(-1), σ1, rfl, hv, ⟨P_of ht hP, hD⟩⟩, hS.F ht⟩) hS.2.2 dX8_steppe_18
  | some j3 =>
    obtain ⟨hj_j3, hv⟩ := hv.2 j3 o4
    refine W_top (v' := .ref (ad (2 + 2 * j3))) rfl ?_
    refine lv_astore (lv' := [(5, .ref (ad (2 + 2 * j3))), (0, .ref (ad 0)), (1, .int sh_), (2, .int lane_), (3, .int i_), (4, .int n_)]) hx hb dX8_steppe_10 hl (by decide) rfl (fun ls hl => ?_)
    refine lv_aload hx hb dX8_steppe_12 (lv_at hl 0 rfl) ?_
    refine lv_ifnonnull (tgt := 19) hx hb dX8_steppe_14 (by decide) ?_
    refine lv_iload_n hx hb dX8_steppe_19 rfl (lv_at hl 3 rfl) ?_
    refine lv_iconst (v := 3) hx hb dX8_steppe_20 (by decide) ?_
    refine k_pure_i (va_runS (As := [.int lane_, .int 3]) (rest := []) ⟨hx, hb, hml, hown, hts⟩ (h_X8_isOneOf lane_ 3) (va_cwS 2 hts gX8_steppe_X8_isOneOf rfl rfl rfl (by decide +kernel) ⟨le_R hRf (Nat.le_of_ble_eq_true rfl), le_R hRl (Nat.le_of_ble_eq_true rfl)⟩) ⟨(fun a U g mk q => ⟨q.1, trivial⟩), (fun U hU hW => ⟨rfl, trivial⟩)⟩ rfl rfl hl.1 rfl (lv_room (Nat.le_of_ble_eq_true rfl)) dX8_steppe_21 ⟨le_R hRc (Nat.le_of_ble_eq_true rfl), le_R hRs (Nat.le_of_ble_eq_true rfl)⟩) hS hP (fun r H locs hr1 hP hS => ?_)
    subst hr1
    refine lv_if_ne (tgt := 30) hx hb dX8_steppe_24 (by decide) (fun c15 => ?_) (fun c15 => ?_)
    · have hv := hv.1 c15
      refine lv_aload hx hb dX8_steppe_30 (lv_at hl 0 rfl) ?_
      refine lv_iload_n hx hb dX8_steppe_32 rfl (lv_at hl 3 rfl) ?_
      refine lv_iload_n hx hb dX8_steppe_33 rfl (lv_at hl 4 rfl) ?_
      refine lv_iload hx hb dX8_steppe_34 (lv_at hl 5 rfl) ?_
      have hp := True.intro
      refine k_read_i (w := wC cy ad) (va_runVN (As := [.int lane_, .int i_, .int n_]) (rest := []) ⟨hx, hb, hml, hown, hts⟩ (h_X5_faultOfTaking D cy ad A j3 lane_ i_ n_ σ1 hj_j3 hp) ⟨va_cnB 3 hts gX8_steppe_X5_faultOfTaking_n53 rfl rfl rfl (nwm_24 hN) (hts (.initialized RX5) (List.mem_of_getElem? (i := 13) rfl)) (by decide +kernel) ⟨le_R hRf (Nat.le_of_ble_eq_true rfl), le_R hRl (Nat.le_of_ble_eq_true rfl)⟩, (hts (.instanceMethod yX5_faultOfTaking) (List.mem_of_getElem? (i := 12) rfl)), (hts (.selects RX5 yX5_faultOfTaking yX5_faultOfTaking) (List.mem_of_getElem? (i := 14) rfl))⟩ ⟨(fun a U g mk q => ⟨q.1, q.2.blind⟩), va_recv hK hP (ci := 5) (q0 := (2 + 2 * j3)) rfl (wC_sh cy ad σ1 hj_j3), (fun U hU hW => ⟨rfl, WdC.pre hP hK hD hN hU hW⟩)⟩ rfl rfl hl.1 rfl (lv_room (Nat.le_of_ble_eq_true rfl)) dX8_steppe_36 ⟨le_R hRc (Nat.le_of_ble_eq_true rfl), le_R hRs (Nat.le_of_ble_eq_true rfl)⟩) hS (fun r H locs hr1 hP hS => ?_)
      subst hr1
      refine lv_istore (lv' := [(6, .int (fn_X5_faultOfTaking j3 lane_ i_ n_ σ1)), (5, .ref (ad (2 + 2 * j3))), (0, .ref (ad 0)), (1, .int sh_), (2, .int lane_), (3, .int i_), (4, .int n_)]) hx hb dX8_steppe_39 hl (by decide) rfl (fun ls hl => ?_)
      refine lv_iload hx hb dX8_steppe_41 (lv_at hl 0 rfl) ?_
      refine lv_if_eq (tgt := 53) hx hb dX8_steppe_43 (by decide) (fun c14 => ?_) (fun c14 => ?_)
      · have hv := hv.1 c14
        refine lv_aload hx hb dX8_steppe_53 (lv_at hl 1 rfl) ?_
        refine lv_iload_n hx hb dX8_steppe_55 rfl (lv_at hl 5 rfl) ?_
        refine lv_iload hx hb dX8_steppe_56 (lv_at hl 6 rfl) ?_
        obtain ⟨g5, g6, hv⟩ := hv
        obtain ⟨hp, hv⟩ := hv
        refine k_read_i (w := wC cy ad) (va_runSN (As := [.ref (ad (2 + 2 * j3)), .int i_, .int n_]) (rest := []) ⟨hx, hb, hml, hown, hts⟩ (h_X6_firstFault D cy ad A j3 i_ n_ g5 g6 σ1 hj_j3 hp) ⟨va_cnB 3 hts gX8_steppe_X6_firstFault_n61 rfl rfl rfl (nwm_25 hN) (hts (.initialized RX6) (List.mem_of_getElem? (i := 31) rfl)) (by decide +kernel) ⟨le_R hRf (Nat.le_of_ble_eq_true rfl), le_R hRl (Nat.le_of_ble_eq_true rfl)⟩, (hts (.static yX6_firstFault) (List.mem_of_getElem? (i := 30) rfl)), trivial⟩ ⟨(fun a U g mk q => ⟨q.1, q.2.blind⟩), (fun U hU hW => ⟨rfl, WdC.pre hP hK hD hN hU hW⟩)⟩ rfl rfl hl.1 rfl (lv_room (Nat.le_of_ble_eq_true rfl)) dX8_steppe_58 ⟨le_R hRc (Nat.le_of_ble_eq_true rfl), le_R hRs (Nat.le_of_ble_eq_true rfl)⟩) hS (fun r7 H locs hr1 hP hS => ?_)
        have hv := hv r7 hr1
        refine lv_istore (lv' := [(7, .int r7), (6, .int (fn_X5_faultOfTaking j3 lane_ i_ n_ σ1)), (5, .ref (ad (2 + 2 * j3))), (0, .ref (ad 0)), (1, .int sh_), (2, .int lane_), (3, .int i_), (4, .int n_)]) hx hb dX8_steppe_61 hl (by decide) rfl (fun ls hl => ?_)
        refine lv_iload hx hb dX8_steppe_63 (lv_at hl 0 rfl) ?_
        refine lv_bipush (v := (-9)) hx hb dX8_steppe_65 (by decide) ?_
        refine lv_icmp_eq (tgt := 76) hx hb dX8_steppe_67 (by decide) (fun c11 => ?_) (fun c11 => ?_)
        · have hv := hv.1 c11
          refine lv_aload_n hx hb dX8_steppe_76 rfl (lv_at hl 3 rfl) ?_
          refine va_get (ci := 8) (v := .ref (ad 11)) (C := RX8) (T := TX8) (N := 5) hx hb hts hinX8 hown hK hP 0 (wC_0 cy ad σ1) rfl 2 (by decide) (hts (.fieldLink RX8 27 "TaleBans" "land" "LTaleBans$Steppe;") (List.mem_of_getElem? (i := 2) rfl)) (fun x h => h) rfl dX8_steppe_77 ?_
          refine lv_aload hx hb dX8_steppe_80 (lv_at hl 2 rfl) ?_
          refine lv_iload_n hx hb dX8_steppe_82 rfl (lv_at hl 6 rfl) ?_
          refine lv_iload hx hb dX8_steppe_83 (lv_at hl 7 rfl) ?_
          obtain ⟨g8, g9, hv⟩ := hv
          obtain ⟨hp, hv⟩ := hv
          refine k_rel_v7 (w := wC cy ad) (va_runVN (As := [.ref (ad (2 + 2 * j3)), .int i_, .int n_]) (rest := []) ⟨hx, hb, hml, hown, hts⟩ (h_X6_settle D cy ad A j3 i_ n_ g8 g9 σ1 hj_j3 hp) ⟨va_cnB 3 hts gX8_steppe_X6_settle_n65 rfl rfl rfl (nwm_28 hN) (hts (.initialized RX6) (List.mem_of_getElem? (i := 31) rfl)) (by decide +kernel) ⟨le_R hRf (Nat.le_of_ble_eq_true rfl), le_R hRl (Nat.le_of_ble_eq_true rfl)⟩, (hts (.instanceMethod yX6_settle) (List.mem_of_getElem? (i := 44) rfl)), (hts (.selects RX6 yX6_settle yX6_settle) (List.mem_of_getElem? (i := 45) rfl))⟩ ⟨(fun a U g mk q => ⟨q.1, WdS.blind q.2⟩), va_recv hK hP (ci := 6) (q0 := 11) rfl (wC_11 cy ad σ1), (fun U hU hW => ⟨rfl, WdS.pre hP hK hD hN hCA (fun q hq => hA q (Nat.le_trans hS.1 hq)) hU hW⟩)⟩ rfl rfl hl.1 rfl (lv_room (Nat.le_of_ble_eq_true rfl)) dX8_steppe_85 ⟨le_R hRc (Nat.le_of_ble_eq_true rfl), le_R hRs (Nat.le_of_ble_eq_true rfl)⟩) hS (fun σ10 H locs hr1 hP hD hS => ?_)
          have hv := hv σ10 hr1
          refine lv_aload_n hx hb dX8_steppe_88 rfl (lv_at hl 3 rfl) ?_
          refine va_get (ci := 8) (v := .ref (ad 11)) (C := RX8) (T := TX8) (N := 5) hx hb hts hinX8 hown hK hP 0 (wC_0 cy ad σ10) rfl 2 (by decide) (hts (.fieldLink RX8 27 "TaleBans" "land" "LTaleBans$Steppe;") (List.mem_of_getElem? (i := 2) rfl)) (fun x h => h) rfl dX8_steppe_89 ?_
          refine va_getN (ci := 6) (v := .int (rdI σ10 2)) (C := RX6) (T := TX6) (N := 8) hx hb hts hinX6 hown hK hP 11 (wC_11 cy ad σ10) rfl 5 (by decide) (nw_11 hN) (fun x h => h) rfl dX8_steppe_92 ?_
          rw [hZ]; rw [hQ] at hv
          refine W.widen (k := 7) (n := 21) (Nat.le_of_ble_eq_true rfl) (Nat.le_of_ble_eq_true rfl) ?_
          exact W.iret (v := (rdI σ10 2)) hx hb hr (fun t ht hW => ⟨⟨(rdI σ10 2), σ10, rfl, hv, ⟨P_of ht hP, hD⟩⟩, hS.F ht⟩) hS.2.2 dX8_steppe_95
        · have hv := hv.2 c11
          refine lv_bipush (v := (-100)) hx hb dX8_steppe_70 (by decide) ?_
          refine lv_iload hx hb dX8_steppe_72 (lv_at hl 0 rfl) ?_
          refine lv_isub hx hb dX8_steppe_74 ?_
          rw [hZ]; rw [hQ] at hv
          refine W.widen (k := 7) (n := 21) (Nat.le_of_ble_eq_true rfl) (Nat.le_of_ble_eq_true rfl) ?_
          exact W.iret (v := ((-100) - r7)) hx hb hr (fun t ht hW => ⟨⟨((-100) - r7), σ1, rfl, hv, ⟨P_of ht hP, hD⟩⟩, hS.F ht⟩) hS.2.2 dX8_steppe_75
      · have hv := hv.2 c14
        refine lv_aload_n hx hb dX8_steppe_46 rfl (lv_at hl 2 rfl) ?_
        refine lv_iload hx hb dX8_steppe_47 (lv_at hl 0 rfl) ?_
        have hp := True.intro
        refine k_rel_i (w := wC cy ad) (va_runV (As := [.int (fn_X5_faultOfTaking j3 lane_ i_ n_ σ1)]) (rest := []) ⟨hx, hb, hml, hown, hts⟩ (h_X8_faulted D cy ad A (fn_X5_faultOfTaking j3 lane_ i_ n_ σ1) σ1 hp) (cwV 1 hts gX8_steppe_X8_faulted rfl rfl rfl (by decide +kernel) ⟨le_R hRf (Nat.le_of_ble_eq_true rfl), le_R hRl (Nat.le_of_ble_eq_true rfl)⟩) ⟨(fun a U g mk q => ⟨q.1, q.2.blind⟩), va_recv hK hP (ci := 8) (q0 := 0) rfl (wC_0 cy ad σ1), (fun U hU hW => ⟨rfl, WdC.pre hP hK hD hN hU hW⟩)⟩ rfl rfl hl.1 rfl (lv_room (Nat.le_of_ble_eq_true rfl)) dX8_steppe_49 ⟨le_R hRc (Nat.le_of_ble_eq_true rfl), le_R hRs (Nat.le_of_ble_eq_true rfl)⟩) hS (fun r13 σ12 H locs hr1 hP hD hS => ?_)
        have hv := hv r13 σ12 hr1
        rw [hZ]; rw [hQ] at hv
        refine W.widen (k := 7) (n := 21) (Nat.le_of_ble_eq_true rfl) (Nat.le_of_ble_eq_true rfl) ?_
        exact W.iret (v := r13) hx hb hr (fun t ht hW => ⟨⟨r13, σ12, rfl, hv, ⟨P_of ht hP, hD⟩⟩, hS.F ht⟩) hS.2.2 dX8_steppe_52
    · have hv := hv.2 c15
      refine lv_bipush (v := (-2)) hx hb dX8_steppe_27 (by decide) ?_
      rw [hZ]; rw [hQ] at hv
      refine W.widen (k := 7) (n := 21) (Nat.le_of_ble_eq_true rfl) (Nat.le_of_ble_eq_true rfl) ?_
      exact W.iret (v := (-2)) hx hb hr (fun t ht hW => ⟨⟨(-2), σ1, rfl, hv, ⟨P_of ht hP, hD⟩⟩, hS.F ht⟩) hS.2.2 dX8_steppe_29
