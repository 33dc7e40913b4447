/-! THE CLAIM OUT OF ONE WALK OF THE LAW'S BODY. Your part is whole_start (and what it stands on); all else here is the same for every law, but numbers. -/
def R_law : String := "TaleBansLaw"
def lw_P (b : Addr) (xs : List Int32) (args : Array Value) (s : State) : Prop := args = #[.ref b] ∧ s.IntsAt b xs ∧ xs.length ≤ 384 ∧ (Jvm.Cond.and given_1 narrow_1).before args s = true
def lw_Q (_ : Array Value) (s : State) (o : Outcome) (t : State) : Prop := o = .returned (some (.int 1)) ∧ Framed s o t [] 600000 7302250
def lw_Z (below : List Frame) (a : Array Value) (s : State) : State → Prop := fun t => ∃ o, t.status = .running ∧ Ended t below o ∧ lw_Q a s o t
/-- the law's own end, with 1 on the stack, nothing written that was there before, its room as the claim has it -/
theorem lw_ret {p : Program} {l : Launch} {e : Env} {s : State} {m : MethodId} {below : List Frame} {meth : Method} {c : Code} {b : Nat} (hx : p.tables.exec = Jvm.exec) (hb : c.code = code) (hr : meth.sig.returnType = ret) (hlocks : meth.locks = false) {pc : Nat} {H : Heap} {ls : Array Slot} (hdg : decode code pc = .ok (.ireturn, 1)) : W p l e room_1 s m #[Value.ref b] below meth c H [] 600000 7302250 (lw_Z below #[Value.ref b] s) (F0 m pc ls [.int 1]) := by
  intro T hT X
  obtain ⟨fs, hret, hrun, hended, hW, hframe⟩ := X.leave (v := some (.int 1)) (hlocks := hlocks) (fun h => by rw [hr] at h; cases h)
  have hmeth' : T.vm.method? m = some meth := X.method'
  refine ⟨T.setFrames fs, ?_, .returned (some (.int 1)), hrun, hended, rfl, ⟨_, rfl⟩, hW, hframe⟩
  jvm_step X.here [X.here.top, hx, hb, hdg, hmeth', hr, ret, narrow_b1]
  (try refine ⟨rfl, ?_⟩); (try refine ⟨rfl, ?_⟩)
  first | (intro acts; rw [hret _ acts rfl rfl rfl]) | rw [hret _ _ rfl rfl rfl]
  exact Steps.refl _
/-- what holds at the law's entry: the machine, the code, the tables' words (any of lw_tbl by 'hts w (by decide +kernel)'), the script of L ints xs at the cell b, what the Statement gives of the start (any of its parts by flat_of_before) -/
def lw_At (p : Program) (s : State) (m : MethodId) (meth : Method) (c : Code) (b L : Nat) (xs : Nat → Int32) : Prop :=
  p.tables.exec = Jvm.exec ∧ c.code = code ∧ meth.sig.returnType = ret ∧ c.maxLocals = 4 ∧ s.vm.findClass R_law = some m.cls ∧ (∀ w ∈ lw_tbl, w.before #[Value.ref b] s = true) ∧ va_X b L xs s s.heap ∧ b < s.heap.size ∧ meth.locks = false ∧ (Jvm.Cond.and given_1 narrow_1).before #[Value.ref b] s = true
/-! the law: both worlds side by side -/
def A0s (s : State) : Nat → Prop := fun q => s.heap.size ≤ q
def WI (D : va_G) (cy : Nat → ClassId) (adC adR : Nat → Nat) (s : State) (σC σR : S_) (H : Heap) : Prop := va_P D vwCl (wC cy adC σC) H ∧ va_P D vwCl (wR cy adR σR) H ∧ va_D (A0s s) (wC cy adC σC) ∧ va_D (A0s s) (wR cy adR σR) ∧ ∀ (i j : Nat) (p q : Nat × va_E), (wC cy adC σC)[i]? = some p → (wR cy adR σR)[j]? = some q → p.1 ≠ q.1
theorem wi_rest {D : va_G} {cl : List vw_C} {w1 w2 w1' : va_W} {H H1 : Heap} (hP2 : va_P D cl w2 H) (hx : ∀ (i j : Nat) (p q : Nat × va_E), w1[i]? = some p → w2[j]? = some q → p.1 ≠ q.1) (hk : ∀ q : Nat, q < H.size → ¬ va_A w1 H.size q → H1[q]? = H[q]?) (hD1 : va_D (va_A w1 H.size) w1') : va_P D cl w2 H1 ∧ ∀ (i j : Nat) (p q : Nat × va_E), w1'[i]? = some p → w2[j]? = some q → p.1 ≠ q.1 := by
  have hlt : ∀ (k : Nat) (q : Nat × va_E), w2[k]? = some q → q.1 < H.size := fun k q hq => (hP2 k q hq).lt
  have hna : ∀ (k : Nat) (q : Nat × va_E), w2[k]? = some q → ¬ va_A w1 H.size q.1 := by
    intro k q hq hA
    rcases hA with ⟨i, e, hi⟩ | hA
    · exact hx i k _ q hi hq rfl
    · exact absurd (hlt k q hq) (Nat.not_lt.mpr hA)
  exact ⟨hP2.kept (fun k q hq => hk q.1 (hlt k q hq) (hna k q hq)), fun i j p q hi hj e => hna j q hj (e ▸ hD1.2 i p hi)⟩
theorem wi_A {A0 : Nat → Prop} {w : va_W} {H : Heap} (hD : va_D A0 w) (hA : ∀ q, H.size ≤ q → A0 q) : ∀ q, va_A w H.size q → A0 q := by
  intro q h
  rcases h with ⟨k, e, hk⟩ | h
  · exact hD.2 k _ hk
  · exact hA q h
theorem P_left {D : va_G} {cl : List vw_C} {w1 w2 : va_W} {H : Heap} (h : va_P D cl (w1 ++ w2) H) : va_P D cl w1 H := fun k q hq => h k q (by rw [List.getElem?_append_left (List.getElem?_eq_some_iff.mp hq).1]; exact hq)
theorem P_right {D : va_G} {cl : List vw_C} {w1 w2 : va_W} {H : Heap} (h : va_P D cl (w1 ++ w2) H) : va_P D cl w2 H := fun k q hq => h (w1.length + k) q (by rw [List.getElem?_append_right (Nat.le_add_right _ _), Nat.add_sub_cancel_left]; exact hq)
theorem D_left {A : Nat → Prop} {w1 w2 : va_W} (h : va_D A (w1 ++ w2)) : va_D A w1 := by
  have key : ∀ (k : Nat) (q : Nat × va_E), w1[k]? = some q → (w1 ++ w2)[k]? = some q := fun k q hq => by
    rw [List.getElem?_append_left (List.getElem?_eq_some_iff.mp hq).1]; exact hq
  exact ⟨fun i j p q hi hj e => h.1 i j p q (key i p hi) (key j q hj) e, fun k q hk => h.2 k q (key k q hk)⟩
theorem D_right {A : Nat → Prop} {w1 w2 : va_W} (h : va_D A (w1 ++ w2)) : va_D A w2 := by
  have key : ∀ (k : Nat) (q : Nat × va_E), w2[k]? = some q → (w1 ++ w2)[w1.length + k]? = some q := fun k q hq => by
    rw [List.getElem?_append_right (Nat.le_add_right _ _), Nat.add_sub_cancel_left]; exact hq
  exact ⟨fun i j p q hi hj e => by have := h.1 _ _ p q (key i p hi) (key j q hj) e; omega, fun k q hk => h.2 _ q (key k q hk)⟩
theorem D_apart {A : Nat → Prop} {w1 w2 : va_W} (h : va_D A (w1 ++ w2)) : ∀ (i j : Nat) (p q : Nat × va_E), w1[i]? = some p → w2[j]? = some q → p.1 ≠ q.1 := by
  intro i j p q hi hj e
  have hl := (List.getElem?_eq_some_iff.mp hi).1
  have := h.1 i (w1.length + j) p q (by rw [List.getElem?_append_left hl]; exact hi) (by rw [List.getElem?_append_right (Nat.le_add_right _ _), Nat.add_sub_cancel_left]; exact hj) e
  omega
section KLAW
variable {p : Program} {l : Launch} {e : Env} {R : Room} {s : State} {m : MethodId} {args : Array Value} {below : List Frame} {meth : Method} {c : Code} {H : Heap} {locs : List Loc} {cells slots : Nat} {Q : State → Prop} {pc : Nat} {ls : Array Slot} {rest st0 : List Value} {a : Array Value} {D : va_G} {cy : Nat → ClassId} {adC adR : Nat → Nat} {σC σR : S_} {mc ms : Nat}
theorem kC_i {post : Int32 → S_ → Prop} (hr : va_Run p l e R s m args below meth c H locs cells slots mc ms (F0 m pc ls st0) rest (va_Qi post (fun u t => va_P D vwCl (wC cy adC u) t.heap ∧ va_D (va_A (wC cy adC σC) H.size) (wC cy adC u)) (va_A (wC cy adC σC) H.size) a) (va_A (wC cy adC σC) H.size)) (hS : va_S (A0s s) s.heap H locs) (hW : WI D cy adC adR s σC σR H)
    (kk : ∀ (r : Int32) (u : S_) (H1 : Heap) (locs1 : List Loc), post r u → WI D cy adC adR s u σR H1 → va_S (A0s s) s.heap H1 locs1 → W p l e R s m args below meth c H1 locs1 (cells + mc) (slots + ms) Q (F0 m (pc + 3) ls (.int r :: rest))) : W p l e R s m args below meth c H locs cells slots Q (F0 m pc ls st0) := by
  obtain ⟨hPC, hPR, hDC, hDR, hX⟩ := hW
  have hA := wi_A hDC (fun q hq => (Nat.le_trans hS.1 hq : s.heap.size ≤ q))
  refine va_calli hr hS (fun q _ h => hA q h) hA (fun r u t H1 locs1 ht hvm hw hB hz hk hS1 => ?_)
  obtain ⟨hR1, hX1⟩ := wi_rest hPR hX hk hB.2
  exact kk r u H1 locs1 hw ⟨ht ▸ hB.1, hR1, hB.2.weaken (fun k q _ h => hA q.1 h), hDR, hX1⟩ hS1
theorem kC_l {post : Int64 → S_ → Prop} (hr : va_Run p l e R s m args below meth c H locs cells slots mc ms (F0 m pc ls st0) rest (va_Ql post (fun u t => va_P D vwCl (wC cy adC u) t.heap ∧ va_D (va_A (wC cy adC σC) H.size) (wC cy adC u)) (va_A (wC cy adC σC) H.size) a) (va_A (wC cy adC σC) H.size)) (hS : va_S (A0s s) s.heap H locs) (hW : WI D cy adC adR s σC σR H)
    (kk : ∀ (r : Int64) (u : S_) (H1 : Heap) (locs1 : List Loc), post r u → WI D cy adC adR s u σR H1 → va_S (A0s s) s.heap H1 locs1 → W p l e R s m args below meth c H1 locs1 (cells + mc) (slots + ms) Q (F0 m (pc + 3) ls (.long r :: rest))) : W p l e R s m args below meth c H locs cells slots Q (F0 m pc ls st0) := by
  obtain ⟨hPC, hPR, hDC, hDR, hX⟩ := hW
  have hA := wi_A hDC (fun q hq => (Nat.le_trans hS.1 hq : s.heap.size ≤ q))
  refine va_calll hr hS (fun q _ h => hA q h) hA (fun r u t H1 locs1 ht hvm hw hB hz hk hS1 => ?_)
  obtain ⟨hR1, hX1⟩ := wi_rest hPR hX hk hB.2
  exact kk r u H1 locs1 hw ⟨ht ▸ hB.1, hR1, hB.2.weaken (fun k q _ h => hA q.1 h), hDR, hX1⟩ hS1
theorem kR_i {post : Int32 → S_ → Prop} (hr : va_Run p l e R s m args below meth c H locs cells slots mc ms (F0 m pc ls st0) rest (va_Qi post (fun u t => va_P D vwCl (wR cy adR u) t.heap ∧ va_D (va_A (wR cy adR σR) H.size) (wR cy adR u)) (va_A (wR cy adR σR) H.size) a) (va_A (wR cy adR σR) H.size)) (hS : va_S (A0s s) s.heap H locs) (hW : WI D cy adC adR s σC σR H)
    (kk : ∀ (r : Int32) (u : S_) (H1 : Heap) (locs1 : List Loc), post r u → WI D cy adC adR s σC u H1 → va_S (A0s s) s.heap H1 locs1 → W p l e R s m args below meth c H1 locs1 (cells + mc) (slots + ms) Q (F0 m (pc + 3) ls (.int r :: rest))) : W p l e R s m args below meth c H locs cells slots Q (F0 m pc ls st0) := by
  obtain ⟨hPC, hPR, hDC, hDR, hX⟩ := hW
  have hA := wi_A hDR (fun q hq => (Nat.le_trans hS.1 hq : s.heap.size ≤ q))
  refine va_calli hr hS (fun q _ h => hA q h) hA (fun r u t H1 locs1 ht hvm hw hB hz hk hS1 => ?_)
  obtain ⟨hC1, hX1⟩ := wi_rest hPC (fun i j x y hi hj e => hX j i y x hj hi e.symm) hk hB.2
  exact kk r u H1 locs1 hw ⟨hC1, ht ▸ hB.1, hDC, hB.2.weaken (fun k q _ h => hA q.1 h), fun i j x y hi hj e => hX1 j i y x hj hi e.symm⟩ hS1
theorem kR_l {post : Int64 → S_ → Prop} (hr : va_Run p l e R s m args below meth c H locs cells slots mc ms (F0 m pc ls st0) rest (va_Ql post (fun u t => va_P D vwCl (wR cy adR u) t.heap ∧ va_D (va_A (wR cy adR σR) H.size) (wR cy adR u)) (va_A (wR cy adR σR) H.size) a) (va_A (wR cy adR σR) H.size)) (hS : va_S (A0s s) s.heap H locs) (hW : WI D cy adC adR s σC σR H)
    (kk : ∀ (r : Int64) (u : S_) (H1 : Heap) (locs1 : List Loc), post r u → WI D cy adC adR s σC u H1 → va_S (A0s s) s.heap H1 locs1 → W p l e R s m args below meth c H1 locs1 (cells + mc) (slots + ms) Q (F0 m (pc + 3) ls (.long r :: rest))) : W p l e R s m args below meth c H locs cells slots Q (F0 m pc ls st0) := by
  obtain ⟨hPC, hPR, hDC, hDR, hX⟩ := hW
  have hA := wi_A hDR (fun q hq => (Nat.le_trans hS.1 hq : s.heap.size ≤ q))
  refine va_calll hr hS (fun q _ h => hA q h) hA (fun r u t H1 locs1 ht hvm hw hB hz hk hS1 => ?_)
  obtain ⟨hC1, hX1⟩ := wi_rest hPC (fun i j x y hi hj e => hX j i y x hj hi e.symm) hk hB.2
  exact kk r u H1 locs1 hw ⟨hC1, ht ▸ hB.1, hDC, hB.2.weaken (fun k q _ h => hA q.1 h), fun i j x y hi hj e => hX1 j i y x hj hi e.symm⟩ hS1
end KLAW
theorem lg_refl {x y : Int64} (h : x = y) : lg_cmp x y = 0 := by
  subst h
  unfold lg_cmp
  rw [if_neg Int64.lt_irrefl, if_pos rfl]
/-! the first states -/
def adU (h : Nat) (u : Nat → Nat) : Nat → Nat := fun k => match k with
  | 0 => h
  | k + 1 => u k
def s0C : S_ := ((fun k => match k with
  | 12 => -1
  | 13 => -1
  | 14 => -1
  | 15 => -1
  | _ => 0, fun _ _ => 0), (fun _ => none), [])
def s0R : S_ := ((fun _ => 0, fun j => match j with
  | 24 => upd (upd (upd (upd (fun _ => 0) 0 (-1)) 1 (-1)) 2 (-1)) 3 (-1)
  | _ => fun _ => 0), (fun _ => none), [])
def a0 : AS := (fun _ => 0, fun _ _ => 0, fun _ _ => 0, 0)
theorem wf0 : WF a0 := ⟨Or.inl rfl, Nat.zero_le _, (by show 0 < 2 ^ 0; decide), (by show 0 < 3; decide), Nat.zero_le _, Nat.zero_le _, Nat.zero_le _, Nat.zero_le _, Nat.zero_le _, fun p h => absurd h (Nat.not_lt_zero p), fun p h => absurd h (Nat.not_lt_zero p), fun p h => absurd h (Nat.not_lt_zero p), fun p h => absurd h (Nat.not_lt_zero p), fun p h => absurd h (Nat.not_lt_zero p), fun _ _ => ⟨(by show 0 ≤ 61; decide), (by show 0 < 3; decide)⟩, fun _ => ⟨rfl, rfl, rfl, rfl, rfl⟩⟩
theorem rc0 : RC a0 s0C := by
  refine ⟨⟨wf0, rfl, rfl, rfl, rfl, rfl, fun p h => absurd h (Nat.not_lt_zero p), fun p h => absurd h (Nat.not_lt_zero p), fun p h => absurd h (Nat.not_lt_zero p), fun p h => absurd h (Nat.not_lt_zero p), rfl, fun p h => absurd h (Nat.not_lt_zero p)⟩, rfl, rfl, rfl, rfl, fun k hk => ?_⟩
  match k, hk with
  | 0, _ => exact ⟨rfl, rfl, fun i h => absurd h (Nat.not_lt_zero _)⟩
  | 1, _ => exact ⟨rfl, rfl, fun i h => absurd h (Nat.not_lt_zero _)⟩
  | 2, _ => exact ⟨rfl, rfl, fun i h => absurd h (Nat.not_lt_zero _)⟩
  | 3, _ => exact ⟨rfl, rfl, fun i h => absurd h (Nat.not_lt_zero _)⟩
theorem rr0 : RR a0 s0R := by
  refine ⟨wf0, rfl, rfl, rfl, rfl, rfl, rfl, rfl, rfl, rfl, fun p h => absurd h (Nat.not_lt_zero p), fun p h => absurd h (Nat.not_lt_zero p), fun p h => absurd h (Nat.not_lt_zero p), fun p h => absurd h (Nat.not_lt_zero p), fun p h => absurd h (Nat.not_lt_zero p), fun k hk => ?_⟩
  match k, hk with
  | 0, _ => exact ⟨rfl, fun h => absurd h (Nat.lt_irrefl 0), fun i h => absurd h (Nat.not_lt_zero _)⟩
  | 1, _ => exact ⟨rfl, fun h => absurd h (Nat.lt_irrefl 0), fun i h => absurd h (Nat.not_lt_zero _)⟩
  | 2, _ => exact ⟨rfl, fun h => absurd h (Nat.lt_irrefl 0), fun i h => absurd h (Nat.not_lt_zero _)⟩
  | 3, _ => exact ⟨rfl, fun h => absurd h (Nat.lt_irrefl 0), fun i h => absurd h (Nat.not_lt_zero _)⟩
