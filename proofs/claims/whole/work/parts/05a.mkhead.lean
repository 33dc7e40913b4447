/-! makers: what all of them need of the tables, and rows that make a row of a known class -/
def KW (D : va_G) (cy : Nat → ClassId) (U : State) : Prop := va_K D vwCl (tysK cy) U ∧ NW U
def AO2 (U : State) : Prop := va_AO "TaleBans$Sheet" U ∧ va_AO "TaleBans$Herder" U
theorem AO2.warm {s U : State} (hW : s.WarmedH U.vm) (h : AO2 s) : AO2 U := ⟨va_AO.moved hW.alike h.1, va_AO.moved hW.alike h.2⟩
theorem AO2.calling {U : State} {a : Array Value} {g : JFrame} {mk : MethodId} (h : AO2 U) : AO2 (U.calling g mk a) := ⟨va_AO.moved (u := U) (U := U.calling g mk a) (Vm.Alike.refl U.vm) h.1, va_AO.moved (u := U) (U := U.calling g mk a) (Vm.Alike.refl U.vm) h.2⟩
theorem KW.warm {D : va_G} {cy : Nat → ClassId} {s U : State} (hW : s.WarmedH U.vm) (h : KW D cy s) : KW D cy U := ⟨va_K.moved hW.alike h.1, h.2.warm hW⟩
theorem KW.calling {D : va_G} {cy : Nat → ClassId} {U : State} {a : Array Value} {g : JFrame} {mk : MethodId} (h : KW D cy U) : KW D cy (U.calling g mk a) := ⟨va_K.moved (u := U) (U := U.calling g mk a) (Vm.Alike.refl U.vm) h.1, NW.same (u := U) (U := U.calling g mk a) rfl h.2⟩
/-- a maker's start -/
def MkS (D : va_G) (cy : Nat → ClassId) (w0 : va_W) (sz : Nat) (U : State) : Prop := U.heap.size = sz ∧ va_P D vwCl w0 U.heap ∧ va_D (fun _ => True) w0 ∧ KW D cy U
theorem MkS.blind {D : va_G} {cy : Nat → ClassId} {w0 : va_W} {sz : Nat} {U : State} {a : Array Value} {g : JFrame} {mk : MethodId} (h : MkS D cy w0 sz U) : MkS D cy w0 sz (U.calling g mk a) := ⟨h.1, h.2.1, h.2.2.1, h.2.2.2.calling⟩
theorem MkS.pre {D : va_G} {cy : Nat → ClassId} {w0 : va_W} {s U : State} {H : Heap} {A : Nat → Prop} (hP : va_P D vwCl w0 H) (hD : va_D A w0) (hKW : KW D cy s) (hU : U.heap = H) (hW : s.WarmedH U.vm) : MkS D cy w0 H.size U := ⟨by rw [hU], by rw [hU]; exact hP, hD.weaken (fun _ _ _ _ => trivial), hKW.warm hW⟩
/-- the same, where rows of objects are made -/
def MkT (D : va_G) (cy : Nat → ClassId) (w0 : va_W) (sz : Nat) (U : State) : Prop := MkS D cy w0 sz U ∧ AO2 U
theorem MkT.blind {D : va_G} {cy : Nat → ClassId} {w0 : va_W} {sz : Nat} {U : State} {a : Array Value} {g : JFrame} {mk : MethodId} (h : MkT D cy w0 sz U) : MkT D cy w0 sz (U.calling g mk a) := ⟨h.1.blind, h.2.calling⟩
theorem MkT.pre {D : va_G} {cy : Nat → ClassId} {w0 : va_W} {s U : State} {H : Heap} {A : Nat → Prop} (hP : va_P D vwCl w0 H) (hD : va_D A w0) (hKW : KW D cy s) (hO : AO2 s) (hU : U.heap = H) (hW : s.WarmedH U.vm) : MkT D cy w0 H.size U := ⟨MkS.pre hP hD hKW hU hW, hO.warm hW⟩
section MKW
variable {p : Program} {l : Launch} {e : Env} {R : Room} {s : State} {m : MethodId} {args : Array Value} {below : List Frame} {meth : Method} {c : Code} {H : Heap} {locs : List Loc} {cells slots : Nat} {Q : State → Prop}
variable {cc : ByteArray} {pc : Nat} {ls : Array Slot} {rest : List Value} {a : Nat} {D : va_G} {cl : List vw_C} {ws : va_W} {tys : List (ClassId × FieldType)} {A : Nat → Prop} {H0 : Heap}
theorem k_newa (hexec : p.tables.exec = Jvm.exec) (hb : c.code = cc) {atype : ArrayType} (harr : (Cond.arrayClass (newarray.typeOf atype)).before args s = true) {ty : FieldType} (hty : newarray.typeOf atype = ty) (hra : ∀ cA : ClassId, va_RA s cA ty = (s.vm.findClass ("[" ++ ty.toString) = some cA)) (hK : va_K D cl tys s) (t0 : Nat) {cA0 : ClassId} (ht : tys[t0]? = some (cA0, ty)) (hP : va_P D cl ws H) (hD : va_D A ws) (hS : va_S A H0 H locs) (hA : ∀ q, H0.size ≤ q → A q)
    {n : Int32} {N' : Nat} {a0 : vp_A} (ha : ∀ cA : ClassId, vp_cell cA a0 = arrV cA N' (fun _ => defaultValue ty)) (hn : ¬ n < 0) (hN : n.toNatClampNeg = N') (hbytes : N' * componentBytes ty ≤ 536870912) (hcells : cells + 1 ≤ R.cells) (hslots : slots + N' ≤ R.slots) (hdg : decode cc pc = .ok (.newarray atype, 2))
    (kk : ∀ (q : Nat) (H1 : Heap), va_P D cl (ws ++ [(q, .inl (cA0, a0))]) H1 → va_D A (ws ++ [(q, .inl (cA0, a0))]) → va_S A H0 H1 locs →
      W p l e R s m args below meth c H1 locs (cells + 1) (slots + N') Q (F0 m (pc + 2) ls (.ref q :: rest))) : W p l e R s m args below meth c H locs cells slots Q (F0 m pc ls (.int n :: rest)) := by
  refine va_newa hexec hb harr hty hK hP hD hS hA ha hn hN hbytes hcells hslots hdg (fun q cA H1 hK1 hP1 hD1 hS1 => ?_)
  have h1 := (hK1.2 tys.length (cA, ty) (by simp)).2
  have h0 := (hK.2 t0 _ ht).2
  rw [hra] at h1 h0
  have he : cA = cA0 := Option.some.inj (h1.symm.trans h0)
  subst he
  exact kk q H1 hP1 hD1 hS1
theorem k_newq (hexec : p.tables.exec = Jvm.exec) (hb : c.code = cc) {own C : String} {index : Nat} (hown : s.vm.findClass own = some m.cls) (hclink : (Cond.classLink own index C).before args s = true) (hover : va_AO C s) (hK : va_K D cl tys s) (t0 : Nat) {cA0 : ClassId} (ht : tys[t0]? = some (cA0, .object C)) (hP : va_P D cl ws H) (hD : va_D A ws) (hS : va_S A H0 H locs) (hA : ∀ q, H0.size ≤ q → A q)
    {n : Int32} {N' : Nat} (hn : ¬ n < 0) (hN : n.toNatClampNeg = N') (hbytes : N' * 4 ≤ 536870912) (hcells : cells + 1 ≤ R.cells) (hslots : slots + N' ≤ R.slots) (hdg : decode cc pc = .ok (.anewarray index, 3))
    (kk : ∀ (q : Nat) (H1 : Heap), va_P D cl (ws ++ [(q, .inl (cA0, N', .inr (.inr (.inr (.inr (fun _ => none))))))]) H1 → va_D A (ws ++ [(q, .inl (cA0, N', .inr (.inr (.inr (.inr (fun _ => none))))))]) → va_S A H0 H1 locs →
      W p l e R s m args below meth c H1 locs (cells + 1) (slots + N') Q (F0 m (pc + 3) ls (.ref q :: rest))) : W p l e R s m args below meth c H locs cells slots Q (F0 m pc ls (.int n :: rest)) := by
  refine va_newq hexec hb hown hclink hover hK hP hD hS hA hn hN hbytes hcells hslots hdg (fun q cA H1 hK1 hP1 hD1 hS1 => ?_)
  obtain ⟨_, _, -, -, -, h1⟩ := (hK1.2 tys.length (cA, .object C) (by simp)).2
  obtain ⟨_, _, -, -, -, h0⟩ := (hK.2 t0 _ ht).2
  have he : cA = cA0 := Option.some.inj (h1.symm.trans h0)
  subst he
  exact kk q H1 hP1 hD1 hS1
end MKW
theorem arrV_same (cI : ClassId) (N : Nat) {f g : Nat → Value} (h : ∀ j, j < N → f j = g j) : arrV cI N f = arrV cI N g := by
  unfold arrV
  congr 2
  funext j
  exact h j.val j.isLt
/-- a row of references, by what it holds below its length -/
theorem va_P_rows {D : va_G} {cl : List vw_C} {ws : va_W} {H : Heap} (h : va_P D cl ws H) (k : Nat) {a n : Nat} {cA : ClassId} {f g : Nat → Option Nat} (hk : ws[k]? = some (a, .inl (cA, n, .inr (.inr (.inr (.inr f)))))) (hfg : ∀ j, j < n → f j = g j) : va_P D cl (ws.set k (a, .inl (cA, n, .inr (.inr (.inr (.inr g)))))) H := by
  intro j q hq
  by_cases hj : j = k
  · subst hj
    rw [List.getElem?_set_self (List.getElem?_eq_some_iff.mp hk).1] at hq
    cases hq
    have h1 := h j _ hk
    show H[a]? = some (vp_cell cA (n, .inr (.inr (.inr (.inr g)))))
    have h2 : H[a]? = some (vp_cell cA (n, .inr (.inr (.inr (.inr f))))) := h1
    rw [h2, vp_cell_q, vp_cell_q, arrV_same cA n (fun i hi => by rw [hfg i hi])]
  · rw [List.getElem?_set_ne (Ne.symm hj)] at hq
    exact h j q hq
