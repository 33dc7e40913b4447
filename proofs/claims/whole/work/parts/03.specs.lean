/-! what each method does, in words of the states -/
abbrev inR (x : Int32) (n : Nat) : Prop := 0 ≤ x ∧ x < nI n
abbrev toN (x : Int32) : Nat := Int32.toNatClampNeg x
def maskB (f : Nat → Bool) : Nat → Nat
  | 0 => 0
  | n + 1 => if f n then maskB f n ||| 2 ^ n else maskB f n
def anyB (f : Nat → Bool) : Nat → Bool
  | 0 => false
  | n + 1 => anyB f n || f n
def allB (f : Nat → Bool) : Nat → Bool
  | 0 => true
  | n + 1 => allB f n && f n
/-- the first place from i on, of n, at which P holds; i + n: there is none -/
def findF (P : Nat → Bool) : Nat → Nat → Nat
  | 0, i => i
  | n + 1, i => if P i then i else findF P n (i + 1)
def fst40 (P : Nat → Bool) : Nat := findF P 40 0
def fillF (f : Nat → Int32) (n : Nat) (v : Int32) : Nat → Int32 := fun k => if k < n then v else f k
/-! the state that both sides hold -/
abbrev AS : Type := (Nat → Nat) × (Nat → Nat → Nat) × (Nat → Nat → Int32) × Int32
def nP (a : AS) : Nat := a.1 0
def aPaid (a : AS) : Nat := a.1 1
def aLaw (a : AS) : Nat := a.1 2
def nT (a : AS) : Nat := a.1 3
def nM (a : AS) : Nat := a.1 4
def nN (a : AS) : Nat := a.1 5
def nR (a : AS) : Nat := a.1 6
def aFault (a : AS) : Nat := a.1 7
def aKind (a : AS) (p : Nat) : Nat := a.2.1 0 p
def aMinds (a : AS) (p : Nat) : Nat := a.2.1 1 p
def aHome (a : AS) (p : Nat) : Nat := a.2.1 2 p
def aDeed (a : AS) (t : Nat) : Nat := a.2.1 3 t
def aTo (a : AS) (t : Nat) : Nat := a.2.1 4 t
def aTin (a : AS) (t : Nat) : Nat := a.2.1 5 t
def aPar (a : AS) (t : Nat) : Nat := a.2.1 6 t
def aMof (a : AS) (k : Nat) : Nat := a.2.1 7 k
def aMto (a : AS) (k : Nat) : Nat := a.2.1 8 k
def aMin (a : AS) (k : Nat) : Nat := a.2.1 9 k
def aN1 (a : AS) (k : Nat) : Nat := a.2.1 10 k
def aN2 (a : AS) (k : Nat) : Nat := a.2.1 11 k
def aRof (a : AS) (k : Nat) : Nat := a.2.1 12 k
def aRt (a : AS) (k : Nat) : Nat := a.2.1 13 k
def aRin (a : AS) (k : Nat) : Nat := a.2.1 14 k
def aRdid (a : AS) (k : Nat) : Nat := a.2.1 15 k
def aSz (a : AS) (k : Nat) : Nat := a.2.1 16 k
def aLane (a : AS) (k : Nat) : Nat := a.2.1 17 k
def aCell (a : AS) (k i : Nat) : Int32 := a.2.2.1 k i
def aTr (a : AS) : Int32 := a.2.2.2
def setN (a : AS) (k v : Nat) : AS := (va_up a.1 k v, a.2)
def setF (a : AS) (j : Nat) (f : Nat → Nat) : AS := (a.1, va_up a.2.1 j f, a.2.2)
def set2 (a : AS) (j i v : Nat) : AS := setF a j (va_up (a.2.1 j) i v)
def setC (a : AS) (k : Nat) (f : Nat → Int32) : AS := (a.1, a.2.1, va_up a.2.2.1 k f, a.2.2.2)
def setTr (a : AS) (v : Int32) : AS := (a.1, a.2.1, a.2.2.1, v)
def memA (a : AS) (p : Nat) : Nat := if aKind a p = 0 then aMinds a p else if aKind a p = 1 then aMinds a p + 2 else 2 * (aMinds a p + 2)
def WF (a : AS) : Prop :=
  (nP a = 0 ∨ 2 ≤ nP a) ∧ nP a ≤ 6 ∧ aPaid a < 2 ^ nP a ∧ aLaw a < 3 ∧ nT a ≤ 6 ∧ nM a ≤ 8 ∧ nN a ≤ 6 ∧ nR a ≤ 8 ∧ aFault a ≤ 4 ∧
  (∀ p, p < nP a → aKind a p < 3 ∧ 1 ≤ aMinds a p ∧ aMinds a p ≤ 5 ∧ aHome a p < 3) ∧
  (∀ t, t < nT a → aDeed a t < 6 ∧ aTo a t < nP a ∧ aTin a t < 40 ∧ aPar a t ≤ 1) ∧
  (∀ k, k < nM a → aMof a k < nP a ∧ aMto a k < 3 ∧ aMin a k < 40) ∧
  (∀ k, k < nN a → aN1 a k < 6 ∧ aN2 a k < 6) ∧
  (∀ k, k < nR a → aRof a k < nP a ∧ aRt a k < nT a ∧ aRin a k < 40 ∧ aRdid a k ≤ 1) ∧
  (∀ k, k < 4 → aSz a k ≤ 61 ∧ aLane a k < 3) ∧
  (nP a = 0 → nT a = 0 ∧ nM a = 0 ∧ nN a = 0 ∧ nR a = 0 ∧ aLaw a = 0)
/-! going through the seasons: where each is, when it heard what (0: never, else the season and one), when what was told where, what is told now (0: none, else its number and one) -/
abbrev RS : Type := (Nat → Nat) × (Nat → Nat → Nat) × (Nat → Nat → Nat) × (Nat → Nat)
def rAt (r : RS) (p : Nat) : Nat := r.1 p
def rHd (r : RS) (p t : Nat) : Nat := r.2.1 p t
def rTl (r : RS) (h t : Nat) : Nat := r.2.2.1 h t
def rNw (r : RS) (h : Nat) : Nat := r.2.2.2 h
/-- T: how many seasons have begun -/
def remB (a : AS) (r : RS) (T p t : Nat) : Bool := decide (0 < rHd r p t ∧ T ≤ rHd r p t + memA a p)
def up2 (f : Nat → Nat → Nat) (p t v : Nat) : Nat → Nat → Nat := va_up f p (va_up (f p) t v)
def hearR (r : RS) (p t T : Nat) : RS := (r.1, up2 r.2.1 p t T, r.2.2)
def mvR (a : AS) (S : Nat) (r : RS) : Nat → RS
  | 0 => r
  | k + 1 => if aMin a k = S then (va_up (mvR a S r k).1 (aMof a k) (aMto a k), (mvR a S r k).2) else mvR a S r k
def brR (a : AS) (S : Nat) (r : RS) : Nat → RS
  | 0 => r
  | t + 1 => if aTin a t = S then hearR (brR a S r t) (aTo a t) t (S + 1) else brR a S r t
def knB (a : AS) (r : RS) (T h t : Nat) : Bool := anyB (fun p => decide (rAt r p = h) && remB a r T p t) (nP a)
def rath (a : AS) (r : RS) (h t b : Nat) : Bool := if aLaw a = 0 then true else if aLaw a = 1 then false else decide (rTl r h t < rTl r h b)
def chR (a : AS) (r : RS) (T h : Nat) : Nat → Nat
  | 0 => 0
  | t + 1 => if knB a r T h t && (decide (chR a r T h t = 0) || rath a r h t (chR a r T h t - 1)) then t + 1 else chR a r T h t
def hdR (a : AS) (r : RS) (h t T : Nat) : Nat → RS
  | 0 => r
  | p + 1 => if rAt r p = h ∧ (aPaid a).testBit p = false then hearR (hdR a r h t T p) p t T else hdR a r h t T p
def tlR (a : AS) (T : Nat) (r : RS) (h : Nat) : RS :=
  if chR a r T h (nT a) = 0 then (r.1, r.2.1, r.2.2.1, va_up r.2.2.2 h 0)
  else hdR a (r.1, r.2.1, up2 r.2.2.1 h (chR a r T h (nT a) - 1) T, va_up r.2.2.2 h (chR a r T h (nT a))) h (chR a r T h (nT a) - 1) T (nP a)
def seR (a : AS) (S : Nat) (r : RS) : RS := tlR a (S + 1) (tlR a (S + 1) (tlR a (S + 1) (brR a S (mvR a S r (nM a)) (nT a)) 0) 1) 2
def r0R (a : AS) : RS := (aHome a, fun _ _ => 0, fun _ _ => 0, fun _ => 0)
def runR (a : AS) : Nat → RS
  | 0 => r0R a
  | S + 1 => seR a S (runR a S)
def alB (a : AS) (r : RS) (T t : Nat) : Bool := anyB (fun p => remB a r T p t) (nP a)
def lauB (a : AS) (T t : Nat) : Bool := decide (aPar a t = 1 ∧ (T - 1) % 7 = 6)
def forR (a : AS) (r : RS) (T : Nat) : Nat → Nat
  | 0 => 0
  | t + 1 => if alB a r T t && !lauB a T t then forR a r T t ||| 2 ^ aDeed a t else forR a r T t
def forb (a : AS) (S : Nat) : Nat := forR a (runR a (S + 1)) (S + 1) (nT a)
def banB (a : AS) (d S : Nat) : Bool := (forb a S).testBit d
def death (a : AS) (t : Nat) : Nat := fst40 (fun S => decide (aTin a t < S) && !alB a (runR a (S + 1)) (S + 1) t)
def soIn (a : AS) (S k : Nat) : Bool := !decide (aRin a k = S) || (remB a (runR a (S + 1)) (S + 1) (aRof a k) (aRt a k) == decide (aRdid a k = 1))
def soB (a : AS) : Bool := allB (fun S => allB (soIn a S) (nR a)) 40
def unmet (a : AS) (m : Nat) : Nat := findF (fun k => m.testBit (aN1 a k) && m.testBit (aN2 a k)) (nN a) 0
def popc (m : Nat) : Nat := (if m.testBit 0 then 1 else 0) + (if m.testBit 1 then 1 else 0) + (if m.testBit 2 then 1 else 0) + (if m.testBit 3 then 1 else 0) + (if m.testBit 4 then 1 else 0) + (if m.testBit 5 then 1 else 0)
/-! each side holds the state -/
def kcl (k : Nat) : Nat := if k = 0 then 2 else if k = 1 then 0 else 1
def ifI (c : Prop) [Decidable c] (x y : Int32) : Int32 := if c then x else y
/-- the class's people, ledgers -/
def RC0 (a : AS) (σ : S_) : Prop :=
  WF a ∧ rdI σ 2 = nI (nP a) ∧ rdI σ 5 = nI (nT a) ∧ rdI σ 6 = nI (nM a) ∧ rdI σ 7 = nI (nN a) ∧ rdI σ 8 = nI (nR a) ∧
  (∀ t, t < nT a → rdA σ 4 (4 * t) = nI (aTo a t) ∧ rdA σ 4 (4 * t + 1) = nI (aTin a t) ∧ rdA σ 4 (4 * t + 2) = nI (aDeed a t) ∧ rdA σ 4 (4 * t + 3) = nI (aPar a t)) ∧
  (∀ k, k < nM a → rdA σ 5 (4 * k) = nI (aMof a k) ∧ rdA σ 5 (4 * k + 1) = nI (aMin a k) ∧ rdA σ 5 (4 * k + 2) = nI (aMto a k)) ∧
  (∀ k, k < nN a → rdA σ 6 (4 * k) = nI (aN1 a k) ∧ rdA σ 6 (4 * k + 1) = nI (aN2 a k)) ∧
  (∀ k, k < nR a → rdA σ 7 (4 * k) = nI (aRof a k) ∧ rdA σ 7 (4 * k + 1) = nI (aRin a k) ∧ rdA σ 7 (4 * k + 2) = nI (aRt a k) ∧ rdA σ 7 (4 * k + 3) = nI (aRdid a k)) ∧
  nH σ = nP a ∧
  (∀ p, p < nP a → pg σ p = some (hget σ p).1 ∧ (hget σ p).2.1 = kcl (aKind a p) ∧ (hget σ p).2.2.1 = nI p ∧ (hget σ p).2.2.2.1 = nI (aMinds a p) ∧ (hget σ p).2.2.2.2 = nI (aHome a p))
/-- the rest of what the class holds -/
def RC1 (a : AS) (σ : S_) : Prop :=
  rdI σ 0 = nI (aFault a) ∧ rdI σ 1 = aTr a ∧
  (∀ k, k < 4 → rdI σ (12 + k) = (if aSz a k = 0 then -1 else nI (aLane a k)) ∧ rdI σ (16 + k) = nI (aSz a k - 1) ∧ ∀ i, i + 1 < aSz a k → rdA σ k i = aCell a k i)
def RC (a : AS) (σ : S_) : Prop := RC0 a σ ∧ rdI σ 3 = nI (aPaid a) ∧ rdI σ 4 = nI (aLaw a) ∧ RC1 a σ
/-- the same but for what the seasons write -/
def sameB (σ σ' : S_) : Prop := (∀ k, (k < 9 ∨ 12 ≤ k) → rdI σ' k = rdI σ k) ∧ (∀ j, j < 8 → rdA σ' j = rdA σ j) ∧ σ'.2 = σ.2
def RunC (a : AS) (r : RS) (Ts Tk : Nat) (σ : S_) : Prop :=
  Ts ≤ 40 ∧ rdI σ 11 + 1 = nI Ts ∧ rdI σ 9 = nI (aPaid a) ∧ rdI σ 10 = nI (aLaw a) ∧
  (∀ p, p < nP a → rAt r p < 3 ∧ rdA σ 8 p = nI (rAt r p) ∧ rdA σ 9 p = nI (memA a p) ∧ rdA σ 10 p = nI (maskB (remB a r Tk p) (nT a))) ∧
  (∀ p t, p < nP a → t < nT a → rHd r p t ≤ Ts ∧ (0 < rHd r p t → rdA σ 11 (6 * p + t) = nI (rHd r p t + memA a p - 1))) ∧
  (∀ h t, h < 3 → t < nT a → rTl r h t ≤ Ts ∧ rdA σ 12 (6 * h + t) + 1 = nI (rTl r h t))
def NowC (r : RS) (n : Nat) (σ : S_) : Prop := ∀ h, h < n → rNw r h ≤ 6 ∧ rdA σ 13 h = (if rNw r h = 0 then -9 else nI (rNw r h - 1))
/-- the reference's -/
def RR (a : AS) (σ : S_) : Prop :=
  WF a ∧ rdI σ 0 = nI (aFault a) ∧ rdI σ 1 = nI (nP a) ∧ rdI σ 2 = nI (aPaid a) ∧ rdI σ 3 = nI (aLaw a) ∧ rdI σ 6 = nI (nT a) ∧ rdI σ 7 = nI (nM a) ∧ rdI σ 8 = nI (nN a) ∧ rdI σ 9 = nI (nR a) ∧ rdI σ 10 = aTr a ∧
  (∀ p, p < nP a → rdA σ 1 p = nI (aKind a p) ∧ rdA σ 2 p = nI (aMinds a p) ∧ rdA σ 3 p = nI (aHome a p)) ∧
  (∀ t, t < nT a → rdA σ 7 t = nI (aDeed a t) ∧ rdA σ 8 t = nI (aTo a t) ∧ rdA σ 9 t = nI (aTin a t) ∧ rdA σ 10 t = nI (aPar a t)) ∧
  (∀ k, k < nM a → rdA σ 11 k = nI (aMof a k) ∧ rdA σ 12 k = nI (aMto a k) ∧ rdA σ 13 k = nI (aMin a k)) ∧
  (∀ k, k < nN a → rdA σ 18 k = nI (aN1 a k) ∧ rdA σ 19 k = nI (aN2 a k)) ∧
  (∀ k, k < nR a → rdA σ 20 k = nI (aRof a k) ∧ rdA σ 21 k = nI (aRt a k) ∧ rdA σ 22 k = nI (aRin a k) ∧ rdA σ 23 k = nI (aRdid a k)) ∧
  (∀ k, k < 4 → rdA σ 24 k + 1 = nI (aSz a k) ∧ (0 < aSz a k → rdA σ 25 k = nI (aLane a k)) ∧ ∀ i, i + 1 < aSz a k → rdA σ 26 (60 * k + i) = aCell a k i)
def sameR (σ σ' : S_) : Prop := (∀ k, rdI σ' k = rdI σ k) ∧ (∀ j, (j < 14 ∨ 17 < j) → rdA σ' j = rdA σ j)
/-- when, as the reference writes it: never is -999 -/
def encR (x : Nat) : Int32 := if x = 0 then -999 else nI (x - 1)
def RunR (a : AS) (r : RS) (T : Nat) (σ : S_) : Prop :=
  T ≤ 40 ∧ (∀ p, p < nP a → rAt r p < 3 ∧ rdA σ 14 p = nI (rAt r p)) ∧
  (∀ p t, p < nP a → t < nT a → rHd r p t ≤ T ∧ rdA σ 15 (6 * p + t) = encR (rHd r p t)) ∧
  (∀ h t, h < 3 → t < nT a → rTl r h t ≤ T ∧ rdA σ 16 (6 * h + t) = encR (rTl r h t))
def NowR (r : RS) (n : Nat) (σ : S_) : Prop := ∀ h, h < n → rNw r h ≤ 6 ∧ rdA σ 17 h = (if rNw r h = 0 then -9 else nI (rNw r h - 1))
/-! the machine's small methods -/
abbrev fn_X8_isOneOf (x n : Int32) : Int32 := b2i (0 ≤ x ∧ x < n)
abbrev fn_X8_isIn (k set : Int32) : Int32 := b2i ((set >>> (k &&& 31)) &&& 1 = 1)
abbrev goesP (place code : Int32) : Prop := if place = 0 then code = 115 else if 24 < place then False else if place - place / 4 * 4 = 1 then code = 59 else if place - place / 4 * 4 = 2 then (code = 104 ∨ code = 98 ∨ code = 103) else if place - place / 4 * 4 = 3 then (49 ≤ code ∧ code ≤ 53) else (48 ≤ code ∧ code ≤ 50)
abbrev fn_X6_goesOn (place code : Int32) : Int32 := b2i (goesP place code)
abbrev fn_X5_hasNothing (j : Nat) (σ : S_) : Int32 := b2i (rdI σ (12 + j) = -1)
abbrev fn_X5_has (j : Nat) (i : Int32) (σ : S_) : Int32 := b2i (0 ≤ i ∧ i < rdI σ (16 + j))
abbrev fn_X5_reaches (j : Nat) (i n : Int32) (σ : S_) : Int32 := b2i (0 ≤ i ∧ 0 ≤ n ∧ i ≤ rdI σ (16 + j) - n)
def shOK (j : Nat) (σ : S_) : Prop := ∃ L : Nat, L ≤ 60 ∧ rdI σ (16 + j) = nI L
def pre_X5_renew (j : Nat) (lane n : Int32) (σ : S_) : Prop := n ≤ 60
def post_X5_renew (j : Nat) (lane n : Int32) (σ0 σ : S_) : Prop := σ = wrA (wrI (wrI σ0 (12 + j) lane) (16 + j) n) j (fillF (rdA σ0 j) 60 0)
def post_X5_clear (j : Nat) (σ0 σ : S_) : Prop := σ = wrI (wrI σ0 (12 + j) (-1)) (16 + j) 0
def pre_X5_at (j : Nat) (i : Int32) (σ : S_) : Prop := shOK j σ
def fn_X5_at (j : Nat) (i : Int32) (σ : S_) : Int32 := if 0 ≤ i ∧ i < rdI σ (16 + j) then rdA σ j (toN i) else 0
def fn_X5_cut (j : Nat) (v : Int32) (σ : S_) : Int32 := if rdI σ (12 + j) = 0 then v.toInt8.toInt32 else if rdI σ (12 + j) = 1 then v.toInt16.toInt32 else v
def pre_X5_set (j : Nat) (i v : Int32) (σ : S_) : Prop := shOK j σ
def post_X5_set (j : Nat) (i v : Int32) (σ0 σ : S_) : Prop := σ = if 0 ≤ i ∧ i < rdI σ0 (16 + j) then wr2 σ0 j (toN i) (fn_X5_cut j v σ0) else σ0
def fn_X5_faultOfTaking (j : Nat) (lane i n : Int32) (σ : S_) : Int32 := if ¬ rdI σ (12 + j) = -1 ∧ ¬ rdI σ (12 + j) = lane then 2 else if rdI σ (12 + j) = -1 then 1 else if n < 0 then 4 else if 0 ≤ i ∧ 0 ≤ n ∧ i ≤ rdI σ (16 + j) - n then 0 else 3
def rowOK (j : Nat) (fr n : Int32) (F N : Nat) (σ : S_) : Prop := fr = nI F ∧ n = nI N ∧ ∃ L : Nat, L ≤ 60 ∧ rdI σ (16 + j) = nI L ∧ F + N ≤ L
def pre_X5_hasOnlyBelow (j : Nat) (bound fr n : Int32) (F N : Nat) (σ : S_) : Prop := rowOK j fr n F N σ
def post_X5_hasOnlyBelow (j : Nat) (bound fr n : Int32) (F N : Nat) (σ : S_) (r : Int32) : Prop := r = b2i (allB (fun x => decide (0 ≤ rdA σ j (F + x) ∧ rdA σ j (F + x) < bound)) N = true)
/-! ledgers -/
def leOK (j : Nat) (σ : S_) : Prop := j < 4 ∧ ∃ C : Nat, C ≤ limN j ∧ rdI σ (5 + j) = nI C
abbrev fn_X3_has (j : Nat) (k : Int32) (σ : S_) : Int32 := b2i (0 ≤ k ∧ k < rdI σ (5 + j))
def pre_X3_at (j : Nat) (k col : Int32) (σ : S_) : Prop := leOK j σ
def fn_X3_at (j : Nat) (k col : Int32) (σ : S_) : Int32 := if (0 ≤ k ∧ k < rdI σ (5 + j)) ∧ (0 ≤ col ∧ col < 4) then rdA σ (4 + j) (4 * toN k + toN col) else -9
def pre_X3_set (j : Nat) (k col v : Int32) (σ : S_) : Prop := leOK j σ
def post_X3_set (j : Nat) (k col v : Int32) (σ0 σ : S_) : Prop := σ = if (0 ≤ k ∧ k < rdI σ0 (5 + j)) ∧ (0 ≤ col ∧ col < 4) then wr2 σ0 (4 + j) (4 * toN k + toN col) v else σ0
def addS (σ : S_) (j C : Nat) (c0 c1 c2 c3 : Int32) : S_ := wr2 (wr2 (wr2 (wr2 (wrI σ (5 + j) (nI (C + 1))) (4 + j) (4 * C) c0) (4 + j) (4 * C + 1) c1) (4 + j) (4 * C + 2) c2) (4 + j) (4 * C + 3) c3
def pre_X3_add (j : Nat) (c0 c1 c2 c3 : Int32) (σ : S_) : Prop := leOK j σ
def post_X3_add (j : Nat) (c0 c1 c2 c3 : Int32) (σ0 : S_) (r : Int32) (σ : S_) : Prop := ∃ C : Nat, C ≤ limN j ∧ rdI σ0 (5 + j) = nI C ∧ ((C = limN j ∧ r = -4 ∧ σ = σ0) ∨ (C < limN j ∧ r = nI C ∧ σ = addS σ0 j C c0 c1 c2 c3))
def post_X3_takeBack (j : Nat) (k : Int32) (σ0 : S_) (r : Int32) (σ : S_) : Prop := if k < 0 ∨ rdI σ0 (5 + j) < k then r = -2 ∧ σ = σ0 else r = rdI σ0 (5 + j) - k ∧ σ = wrI σ0 (5 + j) (rdI σ0 (5 + j) - k)
def pre_X3_keepBelow (j : Nat) (col bound : Int32) (c1 : Nat) (σ : S_) : Prop := leOK j σ ∧ col = nI c1 ∧ c1 < 4
def keepP (j : Nat) (bound : Int32) (c1 : Nat) (σ : S_) (k : Nat) : Bool := decide (rdA σ (4 + j) (4 * k + c1) < bound)
def keptL (P : Nat → Bool) : Nat → List Nat
  | 0 => []
  | n + 1 => if P n then keptL P n ++ [n] else keptL P n
def post_X3_keepBelow (j : Nat) (col bound : Int32) (c1 : Nat) (σ0 σ : S_) : Prop := ∃ C : Nat, C ≤ limN j ∧ rdI σ0 (5 + j) = nI C ∧ rdI σ (5 + j) = nI (keptL (keepP j bound c1 σ0) C).length ∧ (∀ k, k ≠ 5 + j → rdI σ k = rdI σ0 k) ∧ (∀ i, i ≠ 4 + j → rdA σ i = rdA σ0 i) ∧ σ.2 = σ0.2 ∧ ∀ i c, i < (keptL (keepP j bound c1 σ0) C).length → c < 4 → rdA σ (4 + j) (4 * i + c) = rdA σ0 (4 + j) (4 * (keptL (keepP j bound c1 σ0) C).getD i 0 + c)
def post_X3_clear (j : Nat) (σ0 σ : S_) : Prop := σ = wrI σ0 (5 + j) 0
def trI (σ : S_) (b : Int32) : S_ := wrI σ 1 (31 * rdI σ 1 + b)
def post_X7_leave (b : Int32) (σ0 σ : S_) : Prop := σ = trI σ0 b
/-! people -/
def post_X2_herderTelling (q : Nat) (σ0 : S_) (r : Int32) (σ : S_) : Prop := r = (hget σ0 q).2.2.2.1 ∧ σ = trI σ0 1
def post_X2_telling (q : Nat) (σ0 : S_) (r : Int32) (σ : S_) : Prop := r = (hget σ0 q).2.2.2.1 ∧ σ = trI σ0 1
def post_X0_telling (q : Nat) (σ0 : S_) (r : Int32) (σ : S_) : Prop := r = (hget σ0 q).2.2.2.1 + 100 ∧ σ = trI (trI σ0 2) 1
def post_X1_telling (q : Nat) (σ0 : S_) (r : Int32) (σ : S_) : Prop := r = (hget σ0 q).2.2.2.1 + 100 + (hget σ0 q).2.2.2.1 ∧ σ = trI (trI (trI (trI σ0 3) 2) 1) 1
def post_X2_greeting (q : Nat) (σ0 : S_) (r : Int32) (σ : S_) : Prop := r = (hget σ0 q).2.2.1 ∧ σ = trI σ0 4
def post_X1_greeting (q : Nat) (σ0 : S_) (r : Int32) (σ : S_) : Prop := r = 70 ∧ σ = trI σ0 5
def post_PE_telling (q : Nat) (σ0 : S_) (r : Int32) (σ : S_) : Prop := if (hget σ0 q).2.1 = 0 then post_X0_telling q σ0 r σ else if (hget σ0 q).2.1 = 1 then post_X1_telling q σ0 r σ else post_X2_telling q σ0 r σ
def post_PE_greeting (q : Nat) (σ0 : S_) (r : Int32) (σ : S_) : Prop := if (hget σ0 q).2.1 = 1 then post_X1_greeting q σ0 r σ else post_X2_greeting q σ0 r σ
theorem pe_telling_0 {q : Nat} {σ0 σ : S_} {r : Int32} (hc : (hget σ0 q).2.1 = 0) (h : post_X0_telling q σ0 r σ) : post_PE_telling q σ0 r σ := by unfold post_PE_telling; rw [hc]; exact h
theorem pe_telling_1 {q : Nat} {σ0 σ : S_} {r : Int32} (hc : (hget σ0 q).2.1 = 1) (h : post_X1_telling q σ0 r σ) : post_PE_telling q σ0 r σ := by unfold post_PE_telling; rw [hc]; exact h
theorem pe_telling_2 {q : Nat} {σ0 σ : S_} {r : Int32} (hc : (hget σ0 q).2.1 = 2) (h : post_X2_telling q σ0 r σ) : post_PE_telling q σ0 r σ := by unfold post_PE_telling; rw [hc]; exact h
theorem pe_greeting_0 {q : Nat} {σ0 σ : S_} {r : Int32} (hc : (hget σ0 q).2.1 = 0) (h : post_X2_greeting q σ0 r σ) : post_PE_greeting q σ0 r σ := by unfold post_PE_greeting; rw [hc]; exact h
theorem pe_greeting_1 {q : Nat} {σ0 σ : S_} {r : Int32} (hc : (hget σ0 q).2.1 = 1) (h : post_X1_greeting q σ0 r σ) : post_PE_greeting q σ0 r σ := by unfold post_PE_greeting; rw [hc]; exact h
theorem pe_greeting_2 {q : Nat} {σ0 σ : S_} {r : Int32} (hc : (hget σ0 q).2.1 = 2) (h : post_X2_greeting q σ0 r σ) : post_PE_greeting q σ0 r σ := by unfold post_PE_greeting; rw [hc]; exact h
/-! the steppe -/
abbrev fn_X6_isEmpty (σ : S_) : Int32 := b2i (rdI σ 2 = 0)
def peOK (σ : S_) : Prop := ∃ n : Nat, n ≤ 6 ∧ rdI σ 2 = nI n ∧ nH σ = n ∧ ∀ q, q < n → pg σ q = some (hget σ q).1
def pre_X6_person (p : Int32) (σ : S_) : Prop := peOK σ
def fn_X6_person (p : Int32) (σ : S_) : Option Nat := if 0 ≤ p ∧ p < rdI σ 2 then some (toN p) else none
def pre_X6_firstUnmet (banned : Int32) (a : AS) (m : Nat) (σ : S_) : Prop := RC0 a σ ∧ banned = nI m ∧ m < 64
def post_X6_firstUnmet (banned : Int32) (a : AS) (m : Nat) (σ : S_) (r : Int32) : Prop := r = ifI (unmet a m = nN a) (-9) (nI (unmet a m))
def goN (c : Nat → Int32) (i : Nat) : Bool := decide (goesP (nI i) (c i))
/-- the first fault of n codes; n + 100: none -/
def ffN (c : Nat → Int32) (n : Nat) : Nat := if findF (fun i => !goN c i) n 0 < n then findF (fun i => !goN c i) n 0 else if n % 4 = 1 ∧ 8 < n then n + 100 else n
def pre_X6_firstFault (j : Nat) (fr n : Int32) (F N : Nat) (σ : S_) : Prop := rowOK j fr n F N σ
def post_X6_firstFault (j : Nat) (fr n : Int32) (F N : Nat) (σ : S_) (r : Int32) : Prop := r = ifI (ffN (fun i => rdA σ j (F + i)) N = N + 100) (-9) (nI (ffN (fun i => rdA σ j (F + i)) N))
/-! the seasons, in the class; T: how many have begun -/
def pre_X4_isRather (h t b : Int32) (a : AS) (r : RS) (T h1 t1 b1 : Nat) (σ : S_) : Prop := RC0 a σ ∧ RunC a r T T σ ∧ (h = nI h1 ∧ h1 < 3) ∧ (t = nI t1 ∧ t1 < nT a) ∧ (b = nI b1 ∧ b1 < nT a)
def post_X4_isRather (h t b : Int32) (a : AS) (r : RS) (T h1 t1 b1 : Nat) (σ : S_) (x : Int32) : Prop := x = b2i (rath a r h1 t1 b1 = true)
def pre_X4_knownAt (h : Int32) (a : AS) (r : RS) (T h1 : Nat) (σ : S_) : Prop := RC0 a σ ∧ RunC a r T T σ ∧ h = nI h1 ∧ h1 < 3
def post_X4_knownAt (h : Int32) (a : AS) (r : RS) (T h1 : Nat) (σ : S_) (x : Int32) : Prop := x = nI (maskB (knB a r T h1) (nT a))
def pre_X4_chosen (h set : Int32) (a : AS) (r : RS) (T h1 : Nat) (σ : S_) : Prop := RC0 a σ ∧ RunC a r T T σ ∧ (h = nI h1 ∧ h1 < 3) ∧ set = nI (maskB (knB a r T h1) (nT a))
def post_X4_chosen (h set : Int32) (a : AS) (r : RS) (T h1 : Nat) (σ : S_) (x : Int32) : Prop := x = ifI (chR a r T h1 (nT a) = 0) (-9) (nI (chR a r T h1 (nT a) - 1))
def pre_X4_talesOfAll (a : AS) (r : RS) (T : Nat) (σ : S_) : Prop := RC0 a σ ∧ RunC a r T T σ
def post_X4_talesOfAll (a : AS) (r : RS) (T : Nat) (σ : S_) (x : Int32) : Prop := x = nI (maskB (alB a r T) (nT a))
def pre_X4_isLaughedAt (t : Int32) (a : AS) (r : RS) (T t1 : Nat) (σ : S_) : Prop := RC0 a σ ∧ RunC a r T T σ ∧ 1 ≤ T ∧ t = nI t1 ∧ t1 < nT a
def post_X4_isLaughedAt (t : Int32) (a : AS) (r : RS) (T t1 : Nat) (σ : S_) (x : Int32) : Prop := x = b2i (lauB a T t1 = true)
def pre_X4_bannedDeeds (a : AS) (r : RS) (T : Nat) (σ : S_) : Prop := RC0 a σ ∧ RunC a r T T σ ∧ 1 ≤ T
def post_X4_bannedDeeds (a : AS) (r : RS) (T : Nat) (σ : S_) (x : Int32) : Prop := x = nI (forR a r T (nT a))
def pre_X4_isBanned (d : Int32) (a : AS) (r : RS) (T d1 : Nat) (σ : S_) : Prop := RC0 a σ ∧ RunC a r T T σ ∧ 1 ≤ T ∧ d = nI d1 ∧ d1 < 6
def post_X4_isBanned (d : Int32) (a : AS) (r : RS) (T d1 : Nat) (σ : S_) (x : Int32) : Prop := x = b2i ((forR a r T (nT a)).testBit d1 = true)
def pre_X4_talesOf (p : Int32) (a : AS) (r : RS) (T p1 : Nat) (σ : S_) : Prop := RC0 a σ ∧ RunC a r T T σ ∧ p = nI p1 ∧ p1 < nP a
def post_X4_talesOf (p : Int32) (a : AS) (r : RS) (T p1 : Nat) (σ : S_) (x : Int32) : Prop := x = nI (maskB (remB a r T p1) (nT a))
def pre_X4_placeOf (p : Int32) (a : AS) (r : RS) (T p1 : Nat) (σ : S_) : Prop := RC0 a σ ∧ RunC a r T T σ ∧ p = nI p1 ∧ p1 < nP a
def post_X4_placeOf (p : Int32) (a : AS) (r : RS) (T p1 : Nat) (σ : S_) (x : Int32) : Prop := x = nI (rAt r p1)
def pre_X4_taleAt (h : Int32) (a : AS) (r : RS) (T h1 : Nat) (σ : S_) : Prop := NowC r 3 σ ∧ h = nI h1 ∧ h1 < 3
def post_X4_taleAt (h : Int32) (a : AS) (r : RS) (T h1 : Nat) (σ : S_) (x : Int32) : Prop := x = ifI (rNw r h1 = 0) (-9) (nI (rNw r h1 - 1))
def pre_X4_hear (p t : Int32) (a : AS) (r : RS) (T p1 t1 : Nat) (σ : S_) : Prop := RC0 a σ ∧ RunC a r T T σ ∧ 1 ≤ T ∧ (p = nI p1 ∧ p1 < nP a) ∧ (t = nI t1 ∧ t1 < nT a)
def post_X4_hear (p t : Int32) (a : AS) (r : RS) (T p1 t1 : Nat) (σ0 σ : S_) : Prop := sameB σ0 σ ∧ RunC a (hearR r p1 t1 T) T T σ ∧ rdA σ 13 = rdA σ0 13
def pre_X4_tellAt (h : Int32) (a : AS) (r : RS) (T h1 : Nat) (σ : S_) : Prop := RC0 a σ ∧ RunC a r T T σ ∧ 1 ≤ T ∧ (h = nI h1 ∧ h1 < 3) ∧ NowC r h1 σ
def post_X4_tellAt (h : Int32) (a : AS) (r : RS) (T h1 : Nat) (σ0 σ : S_) : Prop := sameB σ0 σ ∧ RunC a (tlR a T r h1) T T σ ∧ NowC (tlR a T r h1) (h1 + 1) σ
def pre_X4_forget (a : AS) (r : RS) (T : Nat) (σ : S_) : Prop := RC0 a σ ∧ RunC a r T (T - 1) σ ∧ 1 ≤ T
def post_X4_forget (a : AS) (r : RS) (T : Nat) (σ0 σ : S_) : Prop := sameB σ0 σ ∧ RunC a r T T σ
def pre_X4_makeMoves (a : AS) (r : RS) (T : Nat) (σ : S_) : Prop := RC0 a σ ∧ RunC a r T T σ ∧ 1 ≤ T
def post_X4_makeMoves (a : AS) (r : RS) (T : Nat) (σ0 σ : S_) : Prop := sameB σ0 σ ∧ RunC a (mvR a (T - 1) r (nM a)) T T σ
def pre_X4_bringTales (a : AS) (r : RS) (T : Nat) (σ : S_) : Prop := RC0 a σ ∧ RunC a r T T σ ∧ 1 ≤ T
def post_X4_bringTales (a : AS) (r : RS) (T : Nat) (σ0 σ : S_) : Prop := sameB σ0 σ ∧ RunC a (brR a (T - 1) r (nT a)) T T σ
def pre_X4_pass (a : AS) (r : RS) (S : Nat) (σ : S_) : Prop := RC0 a σ ∧ RunC a r S S σ ∧ S < 40
def post_X4_pass (a : AS) (r : RS) (S : Nat) (σ0 σ : S_) : Prop := sameB σ0 σ ∧ RunC a (seR a S r) (S + 1) (S + 1) σ ∧ NowC (seR a S r) 3 σ
def pre_X4_begin (paid law : Int32) (a : AS) (σ : S_) : Prop := RC0 a σ ∧ paid = nI (aPaid a) ∧ law = nI (aLaw a)
def post_X4_begin (paid law : Int32) (a : AS) (σ0 σ : S_) : Prop := sameB σ0 σ ∧ RunC a (r0R a) 0 0 σ
/-! what the class's calls share -/
def fn_X8_refusal (known inside : Int32) (σ : S_) : Int32 := if known = 0 then -1 else if inside = 0 then -2 else if rdI σ 2 = 0 then -3 else 0
def fn_X8_sheetAt (k : Int32) (σ : S_) : Option Nat := if 0 ≤ k ∧ k < 4 then some (toN k) else none
def post_X8_faulted (f : Int32) (σ0 : S_) (r : Int32) (σ : S_) : Prop := r = -10 - f ∧ σ = wrI σ0 0 f
def pre_X8_reach (season paid : Int32) (a : AS) (s1 : Nat) (σ : S_) : Prop := RC0 a σ ∧ (season = nI s1 ∧ s1 < 40) ∧ paid = nI (aPaid a) ∧ rdI σ 4 = nI (aLaw a)
def post_X8_reach (season paid : Int32) (a : AS) (s1 : Nat) (σ0 σ : S_) : Prop := sameB σ0 σ ∧ RunC a (runR a (s1 + 1)) (s1 + 1) (s1 + 1) σ ∧ NowC (runR a (s1 + 1)) 3 σ
def pre_X8_isBannedIfPaid (deed season paid : Int32) (a : AS) (d1 s1 : Nat) (σ : S_) : Prop := RC0 a σ ∧ (deed = nI d1 ∧ d1 < 6) ∧ (season = nI s1 ∧ s1 < 40) ∧ paid = nI (aPaid a) ∧ rdI σ 4 = nI (aLaw a)
def post_X8_isBannedIfPaid (deed season paid : Int32) (a : AS) (d1 s1 : Nat) (σ0 : S_) (r : Int32) (σ : S_) : Prop := r = b2i (banB a d1 s1 = true) ∧ sameB σ0 σ
def pre_X8_deathOf (t : Int32) (a : AS) (t1 : Nat) (σ : S_) : Prop := RC0 a σ ∧ (t = nI t1 ∧ t1 < nT a) ∧ rdI σ 3 = nI (aPaid a) ∧ rdI σ 4 = nI (aLaw a)
def post_X8_deathOf (t : Int32) (a : AS) (t1 : Nat) (σ0 : S_) (r : Int32) (σ : S_) : Prop := r = ifI (death a t1 = 40) (-9) (nI (death a t1)) ∧ sameB σ0 σ
def pre_X8_firstBanned (season : Int32) (j : Nat) (i n : Int32) (a : AS) (s1 F N : Nat) (σ : S_) : Prop := RC0 a σ ∧ rdI σ 3 = nI (aPaid a) ∧ rdI σ 4 = nI (aLaw a) ∧ season = nI s1 ∧ rowOK j i n F N σ ∧ j < 4 ∧ s1 + N ≤ 40 ∧ s1 < 40 ∧ ∀ x, x < N → ∃ d : Nat, d < 6 ∧ rdA σ j (F + x) = nI d
def post_X8_firstBanned (season : Int32) (j : Nat) (i n : Int32) (a : AS) (s1 F N : Nat) (σ0 : S_) (r : Int32) (σ : S_) : Prop := sameB σ0 σ ∧ r = ifI (findF (fun x => banB a (toN (rdA σ0 j (F + x))) (s1 + x)) N 0 = N) (-9) (nI (findF (fun x => banB a (toN (rdA σ0 j (F + x))) (s1 + x)) N 0))
def pre_X8_areReadingsSo (paid law : Int32) (a : AS) (σ : S_) : Prop := RC0 a σ ∧ paid = nI (aPaid a) ∧ law = nI (aLaw a)
def post_X8_areReadingsSo (paid law : Int32) (a : AS) (σ0 : S_) (r : Int32) (σ : S_) : Prop := r = b2i (soB a = true) ∧ sameB σ0 σ
def pre_X8_areReadingsSoIn (season : Int32) (a : AS) (S : Nat) (σ : S_) : Prop := RC0 a σ ∧ RunC a (runR a (S + 1)) (S + 1) (S + 1) σ ∧ season = nI S ∧ S < 40
def post_X8_areReadingsSoIn (season : Int32) (a : AS) (S : Nat) (σ : S_) (x : Int32) : Prop := x = b2i (allB (soIn a S) (nR a) = true)
def fn_PE_kind (q : Nat) (σ0 : S_) : Int32 := if (hget σ0 q).2.1 = 0 then 1 else if (hget σ0 q).2.1 = 1 then 2 else 0
def fn_X0_kind (q : Nat) (σ0 : S_) : Int32 := 1
def fn_X1_kind (q : Nat) (σ0 : S_) : Int32 := 2
def fn_X2_kind (q : Nat) (σ0 : S_) : Int32 := 0
theorem pe_kind_0 {q : Nat} {σ0 : S_} (hc : (hget σ0 q).2.1 = 0) : fn_X0_kind q σ0 = fn_PE_kind q σ0 := by unfold fn_PE_kind; rw [hc]; rfl
theorem pe_kind_1 {q : Nat} {σ0 : S_} (hc : (hget σ0 q).2.1 = 1) : fn_X1_kind q σ0 = fn_PE_kind q σ0 := by unfold fn_PE_kind; rw [hc]; rfl
theorem pe_kind_2 {q : Nat} {σ0 : S_} (hc : (hget σ0 q).2.1 = 2) : fn_X2_kind q σ0 = fn_PE_kind q σ0 := by unfold fn_PE_kind; rw [hc]; rfl
def fn_X2_memory (q : Nat) (σ0 : S_) : Int32 := (hget σ0 q).2.2.2.1
def fn_X0_memory (q : Nat) (σ0 : S_) : Int32 := (hget σ0 q).2.2.2.1 + 2
def fn_X1_memory (q : Nat) (σ0 : S_) : Int32 := 2 * ((hget σ0 q).2.2.2.1 + 2)
def fn_PE_memory (q : Nat) (σ0 : S_) : Int32 := if (hget σ0 q).2.1 = 0 then (hget σ0 q).2.2.2.1 + 2 else if (hget σ0 q).2.1 = 1 then 2 * ((hget σ0 q).2.2.2.1 + 2) else (hget σ0 q).2.2.2.1
theorem pe_memory_0 {q : Nat} {σ0 : S_} (hc : (hget σ0 q).2.1 = 0) : fn_X0_memory q σ0 = fn_PE_memory q σ0 := by unfold fn_PE_memory; rw [hc]; rfl
theorem pe_memory_1 {q : Nat} {σ0 : S_} (hc : (hget σ0 q).2.1 = 1) : fn_X1_memory q σ0 = fn_PE_memory q σ0 := by unfold fn_PE_memory; rw [hc]; rfl
theorem pe_memory_2 {q : Nat} {σ0 : S_} (hc : (hget σ0 q).2.1 = 2) : fn_X2_memory q σ0 = fn_PE_memory q σ0 := by unfold fn_PE_memory; rw [hc]; rfl
def pre_X0_kind (q : Nat) (σ0 : S_) : Prop := q < nH σ0 ∧ (hget σ0 q).2.1 = 0
def pre_X1_kind (q : Nat) (σ0 : S_) : Prop := q < nH σ0 ∧ (hget σ0 q).2.1 = 1
def pre_X2_kind (q : Nat) (σ0 : S_) : Prop := q < nH σ0 ∧ (hget σ0 q).2.1 = 2
def pre_X2_memory (q : Nat) (σ0 : S_) : Prop := q < nH σ0 ∧ isC (hget σ0 q).2.1
def pre_X0_memory (q : Nat) (σ0 : S_) : Prop := q < nH σ0 ∧ ((hget σ0 q).2.1 = 0 ∨ (hget σ0 q).2.1 = 1)
def pre_X1_memory (q : Nat) (σ0 : S_) : Prop := q < nH σ0 ∧ (hget σ0 q).2.1 = 1
def pre_X2_herderTelling (q : Nat) (σ0 : S_) : Prop := q < nH σ0 ∧ isC (hget σ0 q).2.1
def pre_X2_telling (q : Nat) (σ0 : S_) : Prop := q < nH σ0 ∧ isC (hget σ0 q).2.1
def pre_X0_telling (q : Nat) (σ0 : S_) : Prop := q < nH σ0 ∧ ((hget σ0 q).2.1 = 0 ∨ (hget σ0 q).2.1 = 1)
def pre_X1_telling (q : Nat) (σ0 : S_) : Prop := q < nH σ0 ∧ (hget σ0 q).2.1 = 1
def pre_X2_greeting (q : Nat) (σ0 : S_) : Prop := q < nH σ0 ∧ isC (hget σ0 q).2.1
def pre_X1_greeting (q : Nat) (σ0 : S_) : Prop := q < nH σ0 ∧ (hget σ0 q).2.1 = 1
/-! the reference -/
abbrev fn_X9_in (v l h : Int64) : Int32 := b2i (l ≤ v ∧ v ≤ h)
abbrev fn_X9_lost : Int64 := -9223372036854775808
abbrev fn_X9_isIn (set k : Int32) : Int32 := b2i ((set >>> (k &&& 31)) &&& 1 = 1)
def popF : Nat → Nat → Nat
  | 0, _ => 0
  | k + 1, n => n % 2 + popF k (n / 2)
def fn_X9_bits (set : Int32) : Int32 := if 0 < set then nI (popF 31 (toN set)) else 0
def fn_J6_bitCount_0f7a4 (x : Int32) : Int32 :=
  let x1 := x - ((UInt32.toInt32 (Int32.toUInt32 x >>> (Int32.toUInt32 1 &&& Int32.toUInt32 31))) &&& 1431655765)
  let x2 := (x1 &&& 858993459) + ((UInt32.toInt32 (Int32.toUInt32 x1 >>> (Int32.toUInt32 2 &&& Int32.toUInt32 31))) &&& 858993459)
  let x3 := (x2 + (UInt32.toInt32 (Int32.toUInt32 x2 >>> (Int32.toUInt32 4 &&& Int32.toUInt32 31)))) &&& 252645135
  let x4 := x3 + (UInt32.toInt32 (Int32.toUInt32 x3 >>> (Int32.toUInt32 8 &&& Int32.toUInt32 31)))
  let x5 := x4 + (UInt32.toInt32 (Int32.toUInt32 x4 >>> (Int32.toUInt32 16 &&& Int32.toUInt32 31)))
  x5 &&& 63
def pre_X9_shareOf (up down : Int64) (which : Int32) (u d : Nat) (σ : S_) : Prop := up = lN u ∧ down = lN d ∧ 0 < d ∧ d ≤ 64 ∧ u ≤ 64
def post_X9_shareOf (up down : Int64) (which : Int32) (u d : Nat) (σ : S_) (r : Int64) : Prop := r = if which = 0 then lN (u / Nat.gcd u d) else lN (d / Nat.gcd u d)
abbrev fn_X9_noDeed (d : Int32) : Int32 := b2i (¬ (0 ≤ d ∧ d < 6))
abbrev fn_X9_noHearth (h : Int32) : Int32 := b2i (¬ (0 ≤ h ∧ h < 3))
abbrev fn_X9_isSeason (s : Int32) : Int32 := b2i (0 ≤ s ∧ s < 40)
abbrev fn_X9_noSheet (k : Int32) : Int32 := b2i (¬ (0 ≤ k ∧ k < 4))
abbrev fn_X9_isBeyond (i : Int32) (n : Int64) (all : Int32) : Int32 := b2i (i < 0 ∨ n < 0 ∨ all.toInt64 < i.toInt64 + n)
def post_X9_refused (code : Int32) (σ0 : S_) (r : Int32) (σ : S_) : Prop := r = code ∧ σ = wrI σ0 0 0
def post_X9_failed (f : Int32) (σ0 : S_) (r : Int32) (σ : S_) : Prop := r = -10 - f ∧ σ = wrI σ0 0 f
def post_X9_failedLong (f : Int32) (σ0 : S_) (r : Int64) (σ : S_) : Prop := r = -9223372036854775808 ∧ σ = wrI σ0 0 f
abbrev fn_X9_noPerson (p : Int32) (σ : S_) : Int32 := b2i (¬ (0 ≤ p ∧ p < rdI σ 1))
abbrev fn_X9_noTale (t : Int32) (σ : S_) : Int32 := b2i (¬ (0 ≤ t ∧ t < rdI σ 6))
def fn_X9_all (σ : S_) : Int32 := (1 <<< (rdI σ 1 &&& 31)) - 1
/-- the reader: a row of n codes from F on, R read, P persons read -/
def rdrOK (fr n : Int32) (F N R : Nat) (σ : S_) : Prop := fr = nI F ∧ n = nI N ∧ F + N ≤ 240 ∧ rdI σ 4 = nI R ∧ R ≤ N
def cdR (F N R : Nat) (σ : S_) : Int32 := if R < N then rdA σ 26 (F + R) else -9
def pre_X9_codeAt (fr n : Int32) (F N R : Nat) (σ : S_) : Prop := rdrOK fr n F N R σ
def post_X9_codeAt (fr n : Int32) (F N R : Nat) (σ : S_) (r : Int32) : Prop := r = cdR F N R σ
def pre_X9_figure (fr n lo hi : Int32) (F N R l h : Nat) (σ : S_) : Prop := rdrOK fr n F N R σ ∧ lo = nI l ∧ hi = nI h ∧ h ≤ 9 ∧ l ≤ 9
def post_X9_figure (fr n lo hi : Int32) (F N R l h : Nat) (σ0 : S_) (r : Int32) (σ : S_) : Prop := (∃ v : Nat, R < N ∧ l ≤ v ∧ v ≤ h ∧ rdA σ0 26 (F + R) = nI (48 + v) ∧ r = nI v ∧ σ = wrI σ0 4 (nI (R + 1))) ∨ ((∀ v : Nat, l ≤ v → v ≤ h → ¬ cdR F N R σ0 = nI (48 + v)) ∧ r = -9 ∧ σ = wrI σ0 4 (nI R))
/-- what a text's first P persons are, as the arrays that are read into hold it -/
def rdP (F : Nat) (σ : S_) (P : Nat) : Prop := ∀ p, p < P → ∃ k m h : Nat, k < 3 ∧ 1 ≤ m ∧ m ≤ 5 ∧ h < 3 ∧ rdA σ 26 (F + 4 * p + 2) = (if k = 0 then 104 else if k = 1 then 98 else 103) ∧ rdA σ 26 (F + 4 * p + 3) = nI (48 + m) ∧ rdA σ 26 (F + 4 * p + 4) = nI (48 + h) ∧ rdA σ 4 p = nI k ∧ rdA σ 5 p = nI m ∧ rdA σ 6 p = nI h
/-- the same but for what the reader writes -/
def sameT (σ σ' : S_) : Prop := (∀ k, ¬ k = 4 → ¬ k = 5 → rdI σ' k = rdI σ k) ∧ (∀ j, (j < 4 ∨ 6 < j) → rdA σ' j = rdA σ j)
def ffR (F N : Nat) (σ : S_) : Nat := ffN (fun i => rdA σ 26 (F + i)) N
/-- the reader stands behind P persons, and no fault so far -/
def atP (F N P : Nat) (σ : S_) : Prop := 4 * P + 1 ≤ N ∧ P ≤ 6 ∧ (∀ i, i < 4 * P + 1 → goN (fun i => rdA σ 26 (F + i)) i = true) ∧ rdI σ 5 = nI P ∧ rdP F σ P
def pre_X9_readsPerson (fr n : Int32) (F N P : Nat) (σ : S_) : Prop := rdrOK fr n F N (4 * P + 1) σ ∧ N ≤ 60 ∧ atP F N P σ
def post_X9_readsPerson (fr n : Int32) (F N P : Nat) (σ0 : S_) (r : Int32) (σ : S_) : Prop := sameT σ0 σ ∧ ((r = 1 ∧ atP F N (P + 1) σ ∧ rdI σ 4 = nI (4 * (P + 1) + 1)) ∨ (r = 0 ∧ ∃ R : Nat, rdI σ 4 = nI R ∧ R ≤ N ∧ 4 * P + 1 ≤ R ∧ R ≤ 4 * P + 4 ∧ (∀ i, i < R → goN (fun i => rdA σ 26 (F + i)) i = true) ∧ (R < N → goN (fun i => rdA σ 26 (F + i)) R = false)))
def pre_X9_readsSteppe (fr n : Int32) (F N : Nat) (σ : S_) : Prop := fr = nI F ∧ n = nI N ∧ F + N ≤ 240 ∧ N ≤ 60
def post_X9_readsSteppe (fr n : Int32) (F N : Nat) (σ0 : S_) (r : Int32) (σ : S_) : Prop := sameT σ0 σ ∧ ((r = 1 ∧ ∃ P : Nat, 2 ≤ P ∧ N = 4 * P + 1 ∧ atP F N P σ ∧ ffR F N σ0 = N + 100) ∨ (r = 0 ∧ ¬ ffR F N σ0 = N + 100 ∧ rdI σ 4 = nI (ffR F N σ0)))
/-- what bars a taking of n cells from i on as a row of a lane: 0, or a fault -/
def barF (a : AS) (k : Nat) (lane i n : Int32) : Nat := if ¬ aSz a k = 0 ∧ ¬ nI (aLane a k) = lane then 2 else if aSz a k = 0 then 1 else if n < 0 then 4 else if 0 ≤ i ∧ i.toInt + n.toInt ≤ ((aSz a k - 1 : Nat) : Int) then 0 else 3
def pre_X9_cellsBarred (k lane i : Int32) (n : Int64) (a : AS) (k1 : Nat) (m : Int32) (σ : S_) : Prop := RR a σ ∧ k = nI k1 ∧ k1 < 4 ∧ n = m.toInt64
def post_X9_cellsBarred (k lane i : Int32) (n : Int64) (a : AS) (k1 : Nat) (m : Int32) (σ0 : S_) (r : Int32) (σ : S_) : Prop := if barF a k1 lane i m = 0 then r = 0 ∧ σ = σ0 else r = -10 - nI (barF a k1 lane i m) ∧ σ = wrI σ0 0 (nI (barF a k1 lane i m))
def pre_X9_memoryOf (p : Int32) (a : AS) (p1 : Nat) (σ : S_) : Prop := RR a σ ∧ p = nI p1 ∧ p1 < nP a
def post_X9_memoryOf (p : Int32) (a : AS) (p1 : Nat) (σ : S_) (r : Int32) : Prop := r = nI (memA a p1)
def pre_X9_begin (a : AS) (σ : S_) : Prop := RR a σ
def post_X9_begin (a : AS) (σ0 σ : S_) : Prop := sameR σ0 σ ∧ RunR a (r0R a) 0 σ
def pre_X9_doesRemember (p t season : Int32) (a : AS) (r : RS) (S p1 t1 : Nat) (σ : S_) : Prop := RR a σ ∧ RunR a r (S + 1) σ ∧ season = nI S ∧ (p = nI p1 ∧ p1 < nP a) ∧ (t = nI t1 ∧ t1 < nT a)
def post_X9_doesRemember (p t season : Int32) (a : AS) (r : RS) (S p1 t1 : Nat) (σ : S_) (x : Int32) : Prop := x = b2i (remB a r (S + 1) p1 t1 = true)
def pre_X9_isAlive (t season : Int32) (a : AS) (r : RS) (S t1 : Nat) (σ : S_) : Prop := RR a σ ∧ RunR a r (S + 1) σ ∧ season = nI S ∧ (t = nI t1 ∧ t1 < nT a)
def post_X9_isAlive (t season : Int32) (a : AS) (r : RS) (S t1 : Nat) (σ : S_) (x : Int32) : Prop := x = b2i (alB a r (S + 1) t1 = true)
def pre_X9_isKnownAt (h t season : Int32) (a : AS) (r : RS) (S h1 t1 : Nat) (σ : S_) : Prop := RR a σ ∧ RunR a r (S + 1) σ ∧ season = nI S ∧ (h = nI h1 ∧ h1 < 3) ∧ (t = nI t1 ∧ t1 < nT a)
def post_X9_isKnownAt (h t season : Int32) (a : AS) (r : RS) (S h1 t1 : Nat) (σ : S_) (x : Int32) : Prop := x = b2i (knB a r (S + 1) h1 t1 = true)
def pre_X9_isRather (h t b : Int32) (a : AS) (r : RS) (S h1 t1 b1 : Nat) (σ : S_) : Prop := RR a σ ∧ RunR a r (S + 1) σ ∧ (h = nI h1 ∧ h1 < 3) ∧ (t = nI t1 ∧ t1 < nT a) ∧ (b = nI b1 ∧ b1 < t1)
def post_X9_isRather (h t b : Int32) (a : AS) (r : RS) (S h1 t1 b1 : Nat) (σ : S_) (x : Int32) : Prop := x = b2i (rath a r h1 t1 b1 = true)
def pre_X9_tellAt (h season : Int32) (a : AS) (r : RS) (S h1 : Nat) (σ : S_) : Prop := RR a σ ∧ RunR a r (S + 1) σ ∧ season = nI S ∧ (h = nI h1 ∧ h1 < 3) ∧ NowR r h1 σ
def post_X9_tellAt (h season : Int32) (a : AS) (r : RS) (S h1 : Nat) (σ0 σ : S_) : Prop := sameR σ0 σ ∧ RunR a (tlR a (S + 1) r h1) (S + 1) σ ∧ NowR (tlR a (S + 1) r h1) (h1 + 1) σ
def pre_X9_goSeason (season : Int32) (a : AS) (r : RS) (S : Nat) (σ : S_) : Prop := RR a σ ∧ RunR a r S σ ∧ season = nI S ∧ S < 40
def post_X9_goSeason (season : Int32) (a : AS) (r : RS) (S : Nat) (σ0 σ : S_) : Prop := sameR σ0 σ ∧ RunR a (seR a S r) (S + 1) σ ∧ NowR (seR a S r) 3 σ
def pre_X9_goTo (season : Int32) (a : AS) (s1 : Nat) (σ : S_) : Prop := RR a σ ∧ season = nI s1 ∧ s1 < 40
def post_X9_goTo (season : Int32) (a : AS) (s1 : Nat) (σ0 σ : S_) : Prop := sameR σ0 σ ∧ RunR a (runR a (s1 + 1)) (s1 + 1) σ ∧ NowR (runR a (s1 + 1)) 3 σ
def pre_X9_forbiddenIn (season : Int32) (a : AS) (r : RS) (S : Nat) (σ : S_) : Prop := RR a σ ∧ RunR a r (S + 1) σ ∧ season = nI S
def post_X9_forbiddenIn (season : Int32) (a : AS) (r : RS) (S : Nat) (σ : S_) (x : Int32) : Prop := x = nI (forR a r (S + 1) (nT a))
def pre_X9_isForbidden (deed season : Int32) (a : AS) (d1 s1 : Nat) (σ : S_) : Prop := RR a σ ∧ (deed = nI d1 ∧ d1 < 6) ∧ (season = nI s1 ∧ s1 < 40)
def post_X9_isForbidden (deed season : Int32) (a : AS) (d1 s1 : Nat) (σ0 : S_) (r : Int32) (σ : S_) : Prop := r = b2i (banB a d1 s1 = true) ∧ sameR σ0 σ
def pre_X9_endOf (t : Int32) (a : AS) (t1 : Nat) (σ : S_) : Prop := RR a σ ∧ t = nI t1 ∧ t1 < nT a
def post_X9_endOf (t : Int32) (a : AS) (t1 : Nat) (σ0 : S_) (r : Int32) (σ : S_) : Prop := r = ifI (death a t1 = 40) 99 (nI (death a t1)) ∧ sameR σ0 σ
def fn_X9_refusedFor (deed season : Int32) (σ : S_) : Int32 := if ¬ (0 ≤ deed ∧ deed < 6) then -1 else if ¬ (0 ≤ season ∧ season < 40) then -2 else if rdI σ 1 = 0 then -3 else 0
def pre_X9_areSo (a : AS) (σ : S_) : Prop := RR a σ
def post_X9_areSo (a : AS) (σ0 : S_) (r : Int32) (σ : S_) : Prop := r = b2i (soB a = true) ∧ sameR σ0 σ
def pre_X9_noCell (k i : Int32) (a : AS) (k1 : Nat) (σ : S_) : Prop := RR a σ ∧ k = nI k1 ∧ k1 < 4
def post_X9_noCell (k i : Int32) (a : AS) (k1 : Nat) (σ : S_) (r : Int32) : Prop := r = if aSz a k1 = 0 then 1 else if 0 ≤ i ∧ i < nI (aSz a k1 - 1) then 0 else 3
def post_X9_traced (b : Int32) (σ0 σ : S_) : Prop := σ = wrI σ0 10 (31 * rdI σ0 10 + b)
/-! what each public call answers, and the state behind it -/
def kdN (x : Int32) : Nat := if x = 104 then 0 else if x = 98 then 1 else 2
def newSt (a : AS) (k F N : Nat) : AS := ((fun i => if i = 0 then (N - 1) / 4 else 0), va_up (va_up (va_up a.2.1 0 (fun p => kdN (aCell a k (F + 4 * p + 2)))) 1 (fun p => toN (aCell a k (F + 4 * p + 3)) - 48)) 2 (fun p => toN (aCell a k (F + 4 * p + 4)) - 48), a.2.2)
def res_steppe (sh lane i n : Int32) (a : AS) : Int32 := if ¬ inR sh 4 then -1 else if ¬ inR lane 3 then -2 else if ¬ barF a (toN sh) lane i n = 0 then -10 - nI (barF a (toN sh) lane i n) else if ffN (fun x => aCell a (toN sh) (toN i + x)) (toN n) = toN n + 100 then nI ((toN n - 1) / 4) else -100 - nI (ffN (fun x => aCell a (toN sh) (toN i + x)) (toN n))
def nxt_steppe (sh lane i n : Int32) (a : AS) : AS := if ¬ inR sh 4 then setN a 7 0 else if ¬ inR lane 3 then setN a 7 0 else if ¬ barF a (toN sh) lane i n = 0 then setN a 7 (barF a (toN sh) lane i n) else if ffN (fun x => aCell a (toN sh) (toN i + x)) (toN n) = toN n + 100 then newSt a (toN sh) (toN i) (toN n) else setN a 7 0
def res_ofPerson (p what : Int32) (a : AS) : Int32 := if ¬ inR p (nP a) then -1 else if what = 0 then nI (aKind a (toN p)) else if what = 1 then nI (aMinds a (toN p)) else if what = 2 then nI (aHome a (toN p)) else if what = 3 then nI (memA a (toN p)) else if what = 4 then b2i ((aPaid a).testBit (toN p) = true) else -2
def nxt_ofPerson (p what : Int32) (a : AS) : AS := a
def addT (a : AS) (d p s : Nat) : AS := setN (set2 (set2 (set2 (set2 a 3 (nT a) d) 4 (nT a) p) 5 (nT a) s) 6 (nT a) 0) 3 (nT a + 1)
def res_tale (deed p season : Int32) (a : AS) : Int32 := if ¬ (inR deed 6 ∧ inR p (nP a)) then -1 else if ¬ inR season 40 then -2 else if nT a = 6 then -4 else nI (nT a)
def nxt_tale (deed p season : Int32) (a : AS) : AS := if ¬ (inR deed 6 ∧ inR p (nP a)) then a else if ¬ inR season 40 then a else if nT a = 6 then a else addT a (toN deed) (toN p) (toN season)
def kepR (a : AS) (left : Nat) : List Nat := keptL (fun x => decide (aRt a x < left)) (nR a)
def remap (a : AS) (L : List Nat) (j : Nat) : Nat → Nat := fun i => a.2.1 j (L.getD i 0)
def undoA (a : AS) (left : Nat) : AS := setN (setN (setF (setF (setF (setF a 12 (remap a (kepR a left) 12)) 13 (remap a (kepR a left) 13)) 14 (remap a (kepR a left) 14)) 15 (remap a (kepR a left) 15)) 3 left) 6 (kepR a left).length
def res_undo (k : Int32) (a : AS) : Int32 := if ¬ (0 ≤ k ∧ k ≤ nI (nT a)) then -2 else nI (nT a - toN k)
def nxt_undo (k : Int32) (a : AS) : AS := if ¬ (0 ≤ k ∧ k ≤ nI (nT a)) then a else undoA a (nT a - toN k)
def res_move (p h season : Int32) (a : AS) : Int32 := if ¬ (inR p (nP a) ∧ inR h 3) then -1 else if ¬ inR season 40 then -2 else if nM a = 8 then -4 else nI (nM a)
def nxt_move (p h season : Int32) (a : AS) : AS := if ¬ (inR p (nP a) ∧ inR h 3) then a else if ¬ inR season 40 then a else if nM a = 8 then a else setN (set2 (set2 (set2 a 7 (nM a) (toN p)) 8 (nM a) (toN h)) 9 (nM a) (toN season)) 4 (nM a + 1)
def res_unmove (k : Int32) (a : AS) : Int32 := if ¬ (0 ≤ k ∧ k ≤ nI (nM a)) then -2 else nI (nM a - toN k)
def nxt_unmove (k : Int32) (a : AS) : AS := if ¬ (0 ≤ k ∧ k ≤ nI (nM a)) then a else setN a 4 (nM a - toN k)
def res_law (v : Int32) (a : AS) : Int32 := if ¬ inR v 3 then -2 else if nP a = 0 then -3 else nI (aLaw a)
def nxt_law (v : Int32) (a : AS) : AS := if ¬ inR v 3 then a else if nP a = 0 then a else setN a 2 (toN v)
def res_pay (p is : Int32) (a : AS) : Int32 := if ¬ inR p (nP a) then -1 else if b2i ((aPaid a).testBit (toN p) = true) = is then 0 else 1
def nxt_pay (p is : Int32) (a : AS) : AS := if ¬ inR p (nP a) then a else if b2i ((aPaid a).testBit (toN p) = true) = is then a else setN a 1 (aPaid a ^^^ 2 ^ toN p)
def res_parody (t is : Int32) (a : AS) : Int32 := if ¬ inR t (nT a) then -1 else if nI (aPar a (toN t)) = is then 0 else 1
def nxt_parody (t is : Int32) (a : AS) : AS := if ¬ inR t (nT a) then a else set2 a 6 (toN t) (toN is)
def res_remembers (p season : Int32) (a : AS) : Int32 := if ¬ inR p (nP a) then -1 else if ¬ inR season 40 then -2 else nI (maskB (remB a (runR a (toN season + 1)) (toN season + 1) (toN p)) (nT a))
def nxt_remembers (p season : Int32) (a : AS) : AS := a
def res_hearth (p season : Int32) (a : AS) : Int32 := if ¬ inR p (nP a) then -1 else if ¬ inR season 40 then -2 else nI (rAt (runR a (toN season + 1)) (toN p))
def nxt_hearth (p season : Int32) (a : AS) : AS := a
def res_told (h season : Int32) (a : AS) : Int32 := if ¬ inR h 3 then -1 else if ¬ inR season 40 then -2 else if nP a = 0 then -3 else ifI (rNw (runR a (toN season + 1)) (toN h) = 0) (-9) (nI (rNw (runR a (toN season + 1)) (toN h) - 1))
def nxt_told (h season : Int32) (a : AS) : AS := a
def res_forbidden (season : Int32) (a : AS) : Int32 := if ¬ inR season 40 then -2 else if nP a = 0 then -3 else nI (forb a (toN season))
def nxt_forbidden (season : Int32) (a : AS) : AS := a
def res_dies (t : Int32) (a : AS) : Int32 := if ¬ inR t (nT a) then -1 else ifI (death a (toN t) = 40) (-9) (nI (death a (toN t)))
def nxt_dies (t : Int32) (a : AS) : AS := a
def freeS (a : AS) (d s : Nat) : Nat := fst40 (fun S => decide (s ≤ S) && !banB a d S)
def res_free (deed season : Int32) (a : AS) : Int32 := if ¬ inR deed 6 then -1 else if ¬ inR season 40 then -2 else if nP a = 0 then -3 else ifI (freeS a (toN deed) (toN season) = 40) (-9) (nI (freeS a (toN deed) (toN season)))
def nxt_free (deed season : Int32) (a : AS) : AS := a
def fewF (a : AS) (d s : Nat) : Nat → Nat
  | 0 => 64
  | m + 1 => if m &&& aPaid a = 0 ∧ (fewF a d s m = 64 ∨ popc m < popc (fewF a d s m)) ∧ banB (setN a 1 (aPaid a ||| m)) d s = false then m else fewF a d s m
def res_fewest (deed season : Int32) (a : AS) : Int32 := if ¬ inR deed 6 then -1 else if ¬ inR season 40 then -2 else if nP a = 0 then -3 else ifI (fewF a (toN deed) (toN season) (2 ^ nP a) = 64) (-9) (nI (fewF a (toN deed) (toN season) (2 ^ nP a)))
def nxt_fewest (deed season : Int32) (a : AS) : AS := a
def lgF (a : AS) (s : Nat) : Nat → Nat × Nat
  | 0 => (0, 0)
  | p + 1 => if (lgF a s p).2 < death (addT a 0 p s) (nT a) then (p, death (addT a 0 p s) (nT a)) else lgF a s p
def res_longest (season what : Int32) (a : AS) : Int32 := if ¬ (inR season 40 ∧ inR what 2) then -2 else if nP a = 0 then -3 else if nT a = 6 then -4 else if what = 0 then nI (lgF a (toN season) (nP a)).1 else ifI ((lgF a (toN season) (nP a)).2 = 40) (-9) (nI (lgF a (toN season) (nP a)).2)
def nxt_longest (season what : Int32) (a : AS) : AS := a
def res_need (deed other : Int32) (a : AS) : Int32 := if ¬ (inR deed 6 ∧ inR other 6) then -1 else if nP a = 0 then -3 else if nN a = 6 then -4 else nI (nN a)
def nxt_need (deed other : Int32) (a : AS) : AS := if ¬ (inR deed 6 ∧ inR other 6) then a else if nP a = 0 then a else if nN a = 6 then a else setN (set2 (set2 a 10 (nN a) (toN deed)) 11 (nN a) (toN other)) 5 (nN a + 1)
def clashS (a : AS) : Nat := fst40 (fun S => !decide (unmet a (forb a S) = nN a))
def res_clash (what : Int32) (a : AS) : Int32 := if ¬ inR what 2 then -2 else if nP a = 0 then -3 else if clashS a = 40 then -9 else if what = 0 then nI (clashS a) else nI (unmet a (forb a (clashS a)))
def nxt_clash (what : Int32) (a : AS) : AS := a
def planF (a : AS) (s k F N : Nat) : Nat := findF (fun x => banB a (toN (aCell a k (F + x))) (s + x)) N 0
def res_plan (season sh lane i n : Int32) (a : AS) : Int32 := if ¬ inR sh 4 then -1 else if ¬ (inR lane 3 ∧ inR season 40) then -2 else if nP a = 0 then -3 else if ¬ barF a (toN sh) lane i n = 0 then -10 - nI (barF a (toN sh) lane i n) else if 40 < toN season + toN n then -2 else if allB (fun x => decide (inR (aCell a (toN sh) (toN i + x)) 6)) (toN n) = false then -1 else ifI (planF a (toN season) (toN sh) (toN i) (toN n) = toN n) (-9) (nI (planF a (toN season) (toN sh) (toN i) (toN n)))
def nxt_plan (season sh lane i n : Int32) (a : AS) : AS := if ¬ inR sh 4 then setN a 7 0 else if ¬ (inR lane 3 ∧ inR season 40) then setN a 7 0 else if nP a = 0 then setN a 7 0 else setN a 7 (barF a (toN sh) lane i n)
def res_reading (p t season did : Int32) (a : AS) : Int32 := if ¬ (inR p (nP a) ∧ inR t (nT a)) then -1 else if ¬ inR season 40 then -2 else if nR a = 8 then -4 else nI (nR a)
def nxt_reading (p t season did : Int32) (a : AS) : AS := if ¬ (inR p (nP a) ∧ inR t (nT a)) then a else if ¬ inR season 40 then a else if nR a = 8 then a else setN (set2 (set2 (set2 (set2 a 12 (nR a) (toN p)) 13 (nR a) (toN t)) 14 (nR a) (toN season)) 15 (nR a) (toN did)) 6 (nR a + 1)
def res_back (k : Int32) (a : AS) : Int32 := if ¬ (0 ≤ k ∧ k ≤ nI (nR a)) then -2 else nI (nR a - toN k)
def nxt_back (k : Int32) (a : AS) : AS := if ¬ (0 ≤ k ∧ k ≤ nI (nR a)) then a else setN a 6 (nR a - toN k)
def res_comes (t : Int32) (a : AS) : Int32 := if ¬ inR t (nT a) then -1 else nI (maskB (fun p => soB (set2 a 4 (toN t) p)) (nP a))
def nxt_comes (t : Int32) (a : AS) : AS := a
def res_paid (a : AS) : Int32 := if nP a = 0 then -3 else nI (maskB (fun p => soB (setN a 1 (aPaid a ||| 2 ^ p))) (nP a))
def nxt_paid (a : AS) : AS := a
def res_laws (a : AS) : Int32 := if nP a = 0 then -3 else nI (maskB (fun v => soB (setN a 2 v)) 3)
def nxt_laws (a : AS) : AS := a
def cntB (f : Nat → Bool) : Nat → Nat
  | 0 => 0
  | n + 1 => cntB f n + (if f n then 1 else 0)
def oddN (a : AS) (d s : Nat) : Nat := cntB (fun m => !banB (setN a 1 m) d s) (2 ^ nP a)
def res_odds (deed season which : Int32) (a : AS) : Int64 := if ¬ (inR deed 6 ∧ inR season 40 ∧ inR which 2 ∧ ¬ nP a = 0) then -9223372036854775808 else if which = 0 then lN (oddN a (toN deed) (toN season) / Nat.gcd (oddN a (toN deed) (toN season)) (2 ^ nP a)) else lN (2 ^ nP a / Nat.gcd (oddN a (toN deed) (toN season)) (2 ^ nP a))
def nxt_odds (deed season which : Int32) (a : AS) : AS := a
def res_sheet (k lane n : Int32) (a : AS) : Int32 := if ¬ inR k 4 then -1 else if ¬ inR lane 3 ∨ 60 < n then -2 else if n < 0 then -14 else 1
def nxt_sheet (k lane n : Int32) (a : AS) : AS := if ¬ inR k 4 then setN a 7 0 else if ¬ inR lane 3 ∨ 60 < n then setN a 7 0 else if n < 0 then setN a 7 4 else setC (set2 (set2 (setN a 7 0) 16 (toN k) (toN n + 1)) 17 (toN k) (toN lane)) (toN k) (fun _ => 0)
def res_lose (k : Int32) (a : AS) : Int32 := if ¬ inR k 4 then -1 else if aSz a (toN k) = 0 then 0 else 1
def nxt_lose (k : Int32) (a : AS) : AS := if ¬ inR k 4 then a else set2 a 16 (toN k) 0
def cutA (l : Nat) (v : Int32) : Int32 := if l = 0 then v.toInt8.toInt32 else if l = 1 then v.toInt16.toInt32 else v
def res_put (k i v : Int32) (a : AS) : Int32 := if ¬ inR k 4 then -1 else if aSz a (toN k) = 0 then -11 else if ¬ inR i (aSz a (toN k) - 1) then -13 else 1
def nxt_put (k i v : Int32) (a : AS) : AS := if ¬ inR k 4 then setN a 7 0 else if aSz a (toN k) = 0 then setN a 7 1 else if ¬ inR i (aSz a (toN k) - 1) then setN a 7 3 else setC (setN a 7 0) (toN k) (va_up (aCell a (toN k)) (toN i) (cutA (aLane a (toN k)) v))
def celF (a : AS) (k : Nat) (lane i : Int32) : Nat := if ¬ aSz a k = 0 ∧ ¬ nI (aLane a k) = lane then 2 else if aSz a k = 0 then 1 else if inR i (aSz a k - 1) then 0 else 3
def res_cell (k i lane : Int32) (a : AS) : Int64 := if ¬ (inR k 4 ∧ inR lane 3) then -9223372036854775808 else if ¬ celF a (toN k) lane i = 0 then -9223372036854775808 else (aCell a (toN k) (toN i)).toInt64
def nxt_cell (k i lane : Int32) (a : AS) : AS := if ¬ (inR k 4 ∧ inR lane 3) then setN a 7 0 else setN a 7 (celF a (toN k) lane i)
def rchA (a : AS) (k : Nat) (i n : Int32) : Prop := 0 ≤ i.toInt ∧ 0 ≤ n.toInt ∧ i.toInt + n.toInt ≤ ((aSz a k - 1 : Nat) : Int)
def copF (a : AS) (k o : Nat) (i j n : Int32) : Nat := if aSz a k = 0 ∨ aSz a o = 0 then 1 else if ¬ aLane a k = aLane a o then 2 else if 0 ≤ i.toInt ∧ 0 ≤ j.toInt ∧ 0 ≤ n.toInt ∧ i.toInt + n.toInt ≤ ((aSz a k - 1 : Nat) : Int) ∧ j.toInt + n.toInt ≤ ((aSz a o - 1 : Nat) : Int) then 0 else 3
def res_copy (k i o j n : Int32) (a : AS) : Int32 := if ¬ (inR k 4 ∧ inR o 4) then -1 else if ¬ copF a (toN k) (toN o) i j n = 0 then -10 - nI (copF a (toN k) (toN o) i j n) else n
def nxt_copy (k i o j n : Int32) (a : AS) : AS := if ¬ (inR k 4 ∧ inR o 4) then setN a 7 0 else if ¬ copF a (toN k) (toN o) i j n = 0 then setN a 7 (copF a (toN k) (toN o) i j n) else setC (setN a 7 0) (toN o) (va_cpy (aCell a (toN k)) (aCell a (toN o)) (toN i) (toN j) (toN n))
def trA (t : Int32) (b : Int32) : Int32 := 31 * t + b
def res_tell (p : Int32) (a : AS) : Int32 := if ¬ inR p (nP a) then -1 else if aKind a (toN p) = 0 then nI (aMinds a (toN p)) else if aKind a (toN p) = 1 then nI (aMinds a (toN p)) + 100 else 2 * nI (aMinds a (toN p)) + 100
def nxt_tell (p : Int32) (a : AS) : AS := if ¬ inR p (nP a) then a else if aKind a (toN p) = 0 then setTr a (trA (aTr a) 1) else if aKind a (toN p) = 1 then setTr a (trA (trA (aTr a) 2) 1) else setTr a (trA (trA (trA (trA (aTr a) 3) 2) 1) 1)
def res_greet (p : Int32) (a : AS) : Int32 := if ¬ inR p (nP a) then -1 else if aKind a (toN p) = 2 then 70 else p
def nxt_greet (p : Int32) (a : AS) : AS := if ¬ inR p (nP a) then a else setTr a (trA (aTr a) (if aKind a (toN p) = 2 then 5 else 4))
def res_as (p kind : Int32) (a : AS) : Int32 := if ¬ inR p (nP a) then -1 else if ¬ inR kind 3 then -2 else if nI (aKind a (toN p)) < kind then -12 else 1
def nxt_as (p kind : Int32) (a : AS) : AS := if ¬ inR p (nP a) then setN a 7 0 else if ¬ inR kind 3 then setN a 7 0 else if nI (aKind a (toN p)) < kind then setN a 7 2 else setN a 7 0
def res_trace (a : AS) : Int32 := aTr a
def nxt_trace (a : AS) : AS := a
def res_fault (a : AS) : Int32 := nI (aFault a)
def nxt_fault (a : AS) : AS := a
def res_many (what : Int32) (a : AS) : Int32 := if what = 0 then nI (nP a) else if what = 1 then nI (nT a) else if what = 2 then nI (nM a) else if what = 3 then nI (nN a) else if what = 4 then nI (nR a) else if what = 5 then nI (aLaw a) else -2
def nxt_many (what : Int32) (a : AS) : AS := a
def pre_X8_steppe (sh_ : Int32) (lane_ : Int32) (i_ : Int32) (n_ : Int32) (a : AS) (σ0 : S_) : Prop := RC a σ0
def post_X8_steppe (sh_ : Int32) (lane_ : Int32) (i_ : Int32) (n_ : Int32) (a : AS) (σ0 : S_) (r : Int32) (σ : S_) : Prop := r = res_steppe sh_ lane_ i_ n_ a ∧ RC (nxt_steppe sh_ lane_ i_ n_ a) σ
def pre_X9_steppe (sh_ : Int32) (lane_ : Int32) (i_ : Int32) (n_ : Int32) (a : AS) (σ0 : S_) : Prop := RR a σ0
def post_X9_steppe (sh_ : Int32) (lane_ : Int32) (i_ : Int32) (n_ : Int32) (a : AS) (σ0 : S_) (r : Int32) (σ : S_) : Prop := r = res_steppe sh_ lane_ i_ n_ a ∧ RR (nxt_steppe sh_ lane_ i_ n_ a) σ
def pre_X8_ofPerson (p_ : Int32) (what_ : Int32) (a : AS) (σ0 : S_) : Prop := RC a σ0
def post_X8_ofPerson (p_ : Int32) (what_ : Int32) (a : AS) (σ0 : S_) (r : Int32) (σ : S_) : Prop := r = res_ofPerson p_ what_ a ∧ RC (nxt_ofPerson p_ what_ a) σ
def pre_X9_ofPerson (p_ : Int32) (what_ : Int32) (a : AS) (σ0 : S_) : Prop := RR a σ0
def post_X9_ofPerson (p_ : Int32) (what_ : Int32) (a : AS) (σ0 : S_) (r : Int32) (σ : S_) : Prop := r = res_ofPerson p_ what_ a ∧ RR (nxt_ofPerson p_ what_ a) σ
def pre_X8_tale (deed_ : Int32) (p_ : Int32) (season_ : Int32) (a : AS) (σ0 : S_) : Prop := RC a σ0
def post_X8_tale (deed_ : Int32) (p_ : Int32) (season_ : Int32) (a : AS) (σ0 : S_) (r : Int32) (σ : S_) : Prop := r = res_tale deed_ p_ season_ a ∧ RC (nxt_tale deed_ p_ season_ a) σ
def pre_X9_tale (deed_ : Int32) (p_ : Int32) (season_ : Int32) (a : AS) (σ0 : S_) : Prop := RR a σ0
def post_X9_tale (deed_ : Int32) (p_ : Int32) (season_ : Int32) (a : AS) (σ0 : S_) (r : Int32) (σ : S_) : Prop := r = res_tale deed_ p_ season_ a ∧ RR (nxt_tale deed_ p_ season_ a) σ
def pre_X8_undo (k_ : Int32) (a : AS) (σ0 : S_) : Prop := RC a σ0
def post_X8_undo (k_ : Int32) (a : AS) (σ0 : S_) (r : Int32) (σ : S_) : Prop := r = res_undo k_ a ∧ RC (nxt_undo k_ a) σ
def pre_X9_undo (k_ : Int32) (a : AS) (σ0 : S_) : Prop := RR a σ0
def post_X9_undo (k_ : Int32) (a : AS) (σ0 : S_) (r : Int32) (σ : S_) : Prop := r = res_undo k_ a ∧ RR (nxt_undo k_ a) σ
def pre_X8_move (p_ : Int32) (h_ : Int32) (season_ : Int32) (a : AS) (σ0 : S_) : Prop := RC a σ0
def post_X8_move (p_ : Int32) (h_ : Int32) (season_ : Int32) (a : AS) (σ0 : S_) (r : Int32) (σ : S_) : Prop := r = res_move p_ h_ season_ a ∧ RC (nxt_move p_ h_ season_ a) σ
def pre_X9_move (p_ : Int32) (h_ : Int32) (season_ : Int32) (a : AS) (σ0 : S_) : Prop := RR a σ0
def post_X9_move (p_ : Int32) (h_ : Int32) (season_ : Int32) (a : AS) (σ0 : S_) (r : Int32) (σ : S_) : Prop := r = res_move p_ h_ season_ a ∧ RR (nxt_move p_ h_ season_ a) σ
def pre_X8_unmove (k_ : Int32) (a : AS) (σ0 : S_) : Prop := RC a σ0
def post_X8_unmove (k_ : Int32) (a : AS) (σ0 : S_) (r : Int32) (σ : S_) : Prop := r = res_unmove k_ a ∧ RC (nxt_unmove k_ a) σ
def pre_X9_unmove (k_ : Int32) (a : AS) (σ0 : S_) : Prop := RR a σ0
def post_X9_unmove (k_ : Int32) (a : AS) (σ0 : S_) (r : Int32) (σ : S_) : Prop := r = res_unmove k_ a ∧ RR (nxt_unmove k_ a) σ
def pre_X8_law (v_ : Int32) (a : AS) (σ0 : S_) : Prop := RC a σ0
def post_X8_law (v_ : Int32) (a : AS) (σ0 : S_) (r : Int32) (σ : S_) : Prop := r = res_law v_ a ∧ RC (nxt_law v_ a) σ
def pre_X9_law (v_ : Int32) (a : AS) (σ0 : S_) : Prop := RR a σ0
def post_X9_law (v_ : Int32) (a : AS) (σ0 : S_) (r : Int32) (σ : S_) : Prop := r = res_law v_ a ∧ RR (nxt_law v_ a) σ
def pre_X8_pay (p_ : Int32) (is_ : Int32) (a : AS) (σ0 : S_) : Prop := RC a σ0 ∧ (is_ = 0 ∨ is_ = 1)
def post_X8_pay (p_ : Int32) (is_ : Int32) (a : AS) (σ0 : S_) (r : Int32) (σ : S_) : Prop := r = res_pay p_ is_ a ∧ RC (nxt_pay p_ is_ a) σ
def pre_X9_pay (p_ : Int32) (is_ : Int32) (a : AS) (σ0 : S_) : Prop := RR a σ0 ∧ (is_ = 0 ∨ is_ = 1)
def post_X9_pay (p_ : Int32) (is_ : Int32) (a : AS) (σ0 : S_) (r : Int32) (σ : S_) : Prop := r = res_pay p_ is_ a ∧ RR (nxt_pay p_ is_ a) σ
def pre_X8_parody (t_ : Int32) (is_ : Int32) (a : AS) (σ0 : S_) : Prop := RC a σ0 ∧ (is_ = 0 ∨ is_ = 1)
def post_X8_parody (t_ : Int32) (is_ : Int32) (a : AS) (σ0 : S_) (r : Int32) (σ : S_) : Prop := r = res_parody t_ is_ a ∧ RC (nxt_parody t_ is_ a) σ
def pre_X9_parody (t_ : Int32) (is_ : Int32) (a : AS) (σ0 : S_) : Prop := RR a σ0 ∧ (is_ = 0 ∨ is_ = 1)
def post_X9_parody (t_ : Int32) (is_ : Int32) (a : AS) (σ0 : S_) (r : Int32) (σ : S_) : Prop := r = res_parody t_ is_ a ∧ RR (nxt_parody t_ is_ a) σ
def pre_X8_remembers (p_ : Int32) (season_ : Int32) (a : AS) (σ0 : S_) : Prop := RC a σ0
def post_X8_remembers (p_ : Int32) (season_ : Int32) (a : AS) (σ0 : S_) (r : Int32) (σ : S_) : Prop := r = res_remembers p_ season_ a ∧ RC (nxt_remembers p_ season_ a) σ
def pre_X9_remembers (p_ : Int32) (season_ : Int32) (a : AS) (σ0 : S_) : Prop := RR a σ0
def post_X9_remembers (p_ : Int32) (season_ : Int32) (a : AS) (σ0 : S_) (r : Int32) (σ : S_) : Prop := r = res_remembers p_ season_ a ∧ RR (nxt_remembers p_ season_ a) σ
def pre_X8_hearth (p_ : Int32) (season_ : Int32) (a : AS) (σ0 : S_) : Prop := RC a σ0
def post_X8_hearth (p_ : Int32) (season_ : Int32) (a : AS) (σ0 : S_) (r : Int32) (σ : S_) : Prop := r = res_hearth p_ season_ a ∧ RC (nxt_hearth p_ season_ a) σ
def pre_X9_hearth (p_ : Int32) (season_ : Int32) (a : AS) (σ0 : S_) : Prop := RR a σ0
def post_X9_hearth (p_ : Int32) (season_ : Int32) (a : AS) (σ0 : S_) (r : Int32) (σ : S_) : Prop := r = res_hearth p_ season_ a ∧ RR (nxt_hearth p_ season_ a) σ
def pre_X8_told (h_ : Int32) (season_ : Int32) (a : AS) (σ0 : S_) : Prop := RC a σ0
def post_X8_told (h_ : Int32) (season_ : Int32) (a : AS) (σ0 : S_) (r : Int32) (σ : S_) : Prop := r = res_told h_ season_ a ∧ RC (nxt_told h_ season_ a) σ
def pre_X9_told (h_ : Int32) (season_ : Int32) (a : AS) (σ0 : S_) : Prop := RR a σ0
def post_X9_told (h_ : Int32) (season_ : Int32) (a : AS) (σ0 : S_) (r : Int32) (σ : S_) : Prop := r = res_told h_ season_ a ∧ RR (nxt_told h_ season_ a) σ
def pre_X8_forbidden (season_ : Int32) (a : AS) (σ0 : S_) : Prop := RC a σ0
def post_X8_forbidden (season_ : Int32) (a : AS) (σ0 : S_) (r : Int32) (σ : S_) : Prop := r = res_forbidden season_ a ∧ RC (nxt_forbidden season_ a) σ
def pre_X9_forbidden (season_ : Int32) (a : AS) (σ0 : S_) : Prop := RR a σ0
def post_X9_forbidden (season_ : Int32) (a : AS) (σ0 : S_) (r : Int32) (σ : S_) : Prop := r = res_forbidden season_ a ∧ RR (nxt_forbidden season_ a) σ
def pre_X8_dies (t_ : Int32) (a : AS) (σ0 : S_) : Prop := RC a σ0
def post_X8_dies (t_ : Int32) (a : AS) (σ0 : S_) (r : Int32) (σ : S_) : Prop := r = res_dies t_ a ∧ RC (nxt_dies t_ a) σ
def pre_X9_dies (t_ : Int32) (a : AS) (σ0 : S_) : Prop := RR a σ0
def post_X9_dies (t_ : Int32) (a : AS) (σ0 : S_) (r : Int32) (σ : S_) : Prop := r = res_dies t_ a ∧ RR (nxt_dies t_ a) σ
def pre_X8_free (deed_ : Int32) (season_ : Int32) (a : AS) (σ0 : S_) : Prop := RC a σ0
def post_X8_free (deed_ : Int32) (season_ : Int32) (a : AS) (σ0 : S_) (r : Int32) (σ : S_) : Prop := r = res_free deed_ season_ a ∧ RC (nxt_free deed_ season_ a) σ
def pre_X9_free (deed_ : Int32) (season_ : Int32) (a : AS) (σ0 : S_) : Prop := RR a σ0
def post_X9_free (deed_ : Int32) (season_ : Int32) (a : AS) (σ0 : S_) (r : Int32) (σ : S_) : Prop := r = res_free deed_ season_ a ∧ RR (nxt_free deed_ season_ a) σ
def pre_X8_fewest (deed_ : Int32) (season_ : Int32) (a : AS) (σ0 : S_) : Prop := RC a σ0
def post_X8_fewest (deed_ : Int32) (season_ : Int32) (a : AS) (σ0 : S_) (r : Int32) (σ : S_) : Prop := r = res_fewest deed_ season_ a ∧ RC (nxt_fewest deed_ season_ a) σ
def pre_X9_fewest (deed_ : Int32) (season_ : Int32) (a : AS) (σ0 : S_) : Prop := RR a σ0
def post_X9_fewest (deed_ : Int32) (season_ : Int32) (a : AS) (σ0 : S_) (r : Int32) (σ : S_) : Prop := r = res_fewest deed_ season_ a ∧ RR (nxt_fewest deed_ season_ a) σ
def pre_X8_longest (season_ : Int32) (what_ : Int32) (a : AS) (σ0 : S_) : Prop := RC a σ0
def post_X8_longest (season_ : Int32) (what_ : Int32) (a : AS) (σ0 : S_) (r : Int32) (σ : S_) : Prop := r = res_longest season_ what_ a ∧ RC (nxt_longest season_ what_ a) σ
def pre_X9_longest (season_ : Int32) (what_ : Int32) (a : AS) (σ0 : S_) : Prop := RR a σ0
def post_X9_longest (season_ : Int32) (what_ : Int32) (a : AS) (σ0 : S_) (r : Int32) (σ : S_) : Prop := r = res_longest season_ what_ a ∧ RR (nxt_longest season_ what_ a) σ
def pre_X8_need (deed_ : Int32) (other_ : Int32) (a : AS) (σ0 : S_) : Prop := RC a σ0
def post_X8_need (deed_ : Int32) (other_ : Int32) (a : AS) (σ0 : S_) (r : Int32) (σ : S_) : Prop := r = res_need deed_ other_ a ∧ RC (nxt_need deed_ other_ a) σ
def pre_X9_need (deed_ : Int32) (other_ : Int32) (a : AS) (σ0 : S_) : Prop := RR a σ0
def post_X9_need (deed_ : Int32) (other_ : Int32) (a : AS) (σ0 : S_) (r : Int32) (σ : S_) : Prop := r = res_need deed_ other_ a ∧ RR (nxt_need deed_ other_ a) σ
def pre_X8_clash (what_ : Int32) (a : AS) (σ0 : S_) : Prop := RC a σ0
def post_X8_clash (what_ : Int32) (a : AS) (σ0 : S_) (r : Int32) (σ : S_) : Prop := r = res_clash what_ a ∧ RC (nxt_clash what_ a) σ
def pre_X9_clash (what_ : Int32) (a : AS) (σ0 : S_) : Prop := RR a σ0
def post_X9_clash (what_ : Int32) (a : AS) (σ0 : S_) (r : Int32) (σ : S_) : Prop := r = res_clash what_ a ∧ RR (nxt_clash what_ a) σ
def pre_X8_plan (season_ : Int32) (sh_ : Int32) (lane_ : Int32) (i_ : Int32) (n_ : Int32) (a : AS) (σ0 : S_) : Prop := RC a σ0
def post_X8_plan (season_ : Int32) (sh_ : Int32) (lane_ : Int32) (i_ : Int32) (n_ : Int32) (a : AS) (σ0 : S_) (r : Int32) (σ : S_) : Prop := r = res_plan season_ sh_ lane_ i_ n_ a ∧ RC (nxt_plan season_ sh_ lane_ i_ n_ a) σ
def pre_X9_plan (season_ : Int32) (sh_ : Int32) (lane_ : Int32) (i_ : Int32) (n_ : Int32) (a : AS) (σ0 : S_) : Prop := RR a σ0
def post_X9_plan (season_ : Int32) (sh_ : Int32) (lane_ : Int32) (i_ : Int32) (n_ : Int32) (a : AS) (σ0 : S_) (r : Int32) (σ : S_) : Prop := r = res_plan season_ sh_ lane_ i_ n_ a ∧ RR (nxt_plan season_ sh_ lane_ i_ n_ a) σ
def pre_X8_reading (p_ : Int32) (t_ : Int32) (season_ : Int32) (did_ : Int32) (a : AS) (σ0 : S_) : Prop := RC a σ0 ∧ (did_ = 0 ∨ did_ = 1)
def post_X8_reading (p_ : Int32) (t_ : Int32) (season_ : Int32) (did_ : Int32) (a : AS) (σ0 : S_) (r : Int32) (σ : S_) : Prop := r = res_reading p_ t_ season_ did_ a ∧ RC (nxt_reading p_ t_ season_ did_ a) σ
def pre_X9_reading (p_ : Int32) (t_ : Int32) (season_ : Int32) (did_ : Int32) (a : AS) (σ0 : S_) : Prop := RR a σ0 ∧ (did_ = 0 ∨ did_ = 1)
def post_X9_reading (p_ : Int32) (t_ : Int32) (season_ : Int32) (did_ : Int32) (a : AS) (σ0 : S_) (r : Int32) (σ : S_) : Prop := r = res_reading p_ t_ season_ did_ a ∧ RR (nxt_reading p_ t_ season_ did_ a) σ
def pre_X8_back (k_ : Int32) (a : AS) (σ0 : S_) : Prop := RC a σ0
def post_X8_back (k_ : Int32) (a : AS) (σ0 : S_) (r : Int32) (σ : S_) : Prop := r = res_back k_ a ∧ RC (nxt_back k_ a) σ
def pre_X9_back (k_ : Int32) (a : AS) (σ0 : S_) : Prop := RR a σ0
def post_X9_back (k_ : Int32) (a : AS) (σ0 : S_) (r : Int32) (σ : S_) : Prop := r = res_back k_ a ∧ RR (nxt_back k_ a) σ
def pre_X8_comes (t_ : Int32) (a : AS) (σ0 : S_) : Prop := RC a σ0
def post_X8_comes (t_ : Int32) (a : AS) (σ0 : S_) (r : Int32) (σ : S_) : Prop := r = res_comes t_ a ∧ RC (nxt_comes t_ a) σ
def pre_X9_comes (t_ : Int32) (a : AS) (σ0 : S_) : Prop := RR a σ0
def post_X9_comes (t_ : Int32) (a : AS) (σ0 : S_) (r : Int32) (σ : S_) : Prop := r = res_comes t_ a ∧ RR (nxt_comes t_ a) σ
def pre_X8_paid (a : AS) (σ0 : S_) : Prop := RC a σ0
def post_X8_paid (a : AS) (σ0 : S_) (r : Int32) (σ : S_) : Prop := r = res_paid a ∧ RC (nxt_paid a) σ
def pre_X9_paid (a : AS) (σ0 : S_) : Prop := RR a σ0
def post_X9_paid (a : AS) (σ0 : S_) (r : Int32) (σ : S_) : Prop := r = res_paid a ∧ RR (nxt_paid a) σ
def pre_X8_laws (a : AS) (σ0 : S_) : Prop := RC a σ0
def post_X8_laws (a : AS) (σ0 : S_) (r : Int32) (σ : S_) : Prop := r = res_laws a ∧ RC (nxt_laws a) σ
def pre_X9_laws (a : AS) (σ0 : S_) : Prop := RR a σ0
def post_X9_laws (a : AS) (σ0 : S_) (r : Int32) (σ : S_) : Prop := r = res_laws a ∧ RR (nxt_laws a) σ
def pre_X8_odds (deed_ : Int32) (season_ : Int32) (which_ : Int32) (a : AS) (σ0 : S_) : Prop := RC a σ0
def post_X8_odds (deed_ : Int32) (season_ : Int32) (which_ : Int32) (a : AS) (σ0 : S_) (r : Int64) (σ : S_) : Prop := r = res_odds deed_ season_ which_ a ∧ RC (nxt_odds deed_ season_ which_ a) σ
def pre_X9_odds (deed_ : Int32) (season_ : Int32) (which_ : Int32) (a : AS) (σ0 : S_) : Prop := RR a σ0
def post_X9_odds (deed_ : Int32) (season_ : Int32) (which_ : Int32) (a : AS) (σ0 : S_) (r : Int64) (σ : S_) : Prop := r = res_odds deed_ season_ which_ a ∧ RR (nxt_odds deed_ season_ which_ a) σ
def pre_X8_sheet (k_ : Int32) (lane_ : Int32) (n_ : Int32) (a : AS) (σ0 : S_) : Prop := RC a σ0
def post_X8_sheet (k_ : Int32) (lane_ : Int32) (n_ : Int32) (a : AS) (σ0 : S_) (r : Int32) (σ : S_) : Prop := r = res_sheet k_ lane_ n_ a ∧ RC (nxt_sheet k_ lane_ n_ a) σ
def pre_X9_sheet (k_ : Int32) (lane_ : Int32) (n_ : Int32) (a : AS) (σ0 : S_) : Prop := RR a σ0
def post_X9_sheet (k_ : Int32) (lane_ : Int32) (n_ : Int32) (a : AS) (σ0 : S_) (r : Int32) (σ : S_) : Prop := r = res_sheet k_ lane_ n_ a ∧ RR (nxt_sheet k_ lane_ n_ a) σ
def pre_X8_lose (k_ : Int32) (a : AS) (σ0 : S_) : Prop := RC a σ0
def post_X8_lose (k_ : Int32) (a : AS) (σ0 : S_) (r : Int32) (σ : S_) : Prop := r = res_lose k_ a ∧ RC (nxt_lose k_ a) σ
def pre_X9_lose (k_ : Int32) (a : AS) (σ0 : S_) : Prop := RR a σ0
def post_X9_lose (k_ : Int32) (a : AS) (σ0 : S_) (r : Int32) (σ : S_) : Prop := r = res_lose k_ a ∧ RR (nxt_lose k_ a) σ
def pre_X8_put (k_ : Int32) (i_ : Int32) (v_ : Int32) (a : AS) (σ0 : S_) : Prop := RC a σ0
def post_X8_put (k_ : Int32) (i_ : Int32) (v_ : Int32) (a : AS) (σ0 : S_) (r : Int32) (σ : S_) : Prop := r = res_put k_ i_ v_ a ∧ RC (nxt_put k_ i_ v_ a) σ
def pre_X9_put (k_ : Int32) (i_ : Int32) (v_ : Int32) (a : AS) (σ0 : S_) : Prop := RR a σ0
def post_X9_put (k_ : Int32) (i_ : Int32) (v_ : Int32) (a : AS) (σ0 : S_) (r : Int32) (σ : S_) : Prop := r = res_put k_ i_ v_ a ∧ RR (nxt_put k_ i_ v_ a) σ
def pre_X8_cell (k_ : Int32) (i_ : Int32) (lane_ : Int32) (a : AS) (σ0 : S_) : Prop := RC a σ0
def post_X8_cell (k_ : Int32) (i_ : Int32) (lane_ : Int32) (a : AS) (σ0 : S_) (r : Int64) (σ : S_) : Prop := r = res_cell k_ i_ lane_ a ∧ RC (nxt_cell k_ i_ lane_ a) σ
def pre_X9_cell (k_ : Int32) (i_ : Int32) (lane_ : Int32) (a : AS) (σ0 : S_) : Prop := RR a σ0
def post_X9_cell (k_ : Int32) (i_ : Int32) (lane_ : Int32) (a : AS) (σ0 : S_) (r : Int64) (σ : S_) : Prop := r = res_cell k_ i_ lane_ a ∧ RR (nxt_cell k_ i_ lane_ a) σ
def pre_X8_copy (k_ : Int32) (i_ : Int32) (o_ : Int32) (j_ : Int32) (n_ : Int32) (a : AS) (σ0 : S_) : Prop := RC a σ0
def post_X8_copy (k_ : Int32) (i_ : Int32) (o_ : Int32) (j_ : Int32) (n_ : Int32) (a : AS) (σ0 : S_) (r : Int32) (σ : S_) : Prop := r = res_copy k_ i_ o_ j_ n_ a ∧ RC (nxt_copy k_ i_ o_ j_ n_ a) σ
def pre_X9_copy (k_ : Int32) (i_ : Int32) (o_ : Int32) (j_ : Int32) (n_ : Int32) (a : AS) (σ0 : S_) : Prop := RR a σ0
def post_X9_copy (k_ : Int32) (i_ : Int32) (o_ : Int32) (j_ : Int32) (n_ : Int32) (a : AS) (σ0 : S_) (r : Int32) (σ : S_) : Prop := r = res_copy k_ i_ o_ j_ n_ a ∧ RR (nxt_copy k_ i_ o_ j_ n_ a) σ
def pre_X8_tell (p_ : Int32) (a : AS) (σ0 : S_) : Prop := RC a σ0
def post_X8_tell (p_ : Int32) (a : AS) (σ0 : S_) (r : Int32) (σ : S_) : Prop := r = res_tell p_ a ∧ RC (nxt_tell p_ a) σ
def pre_X9_tell (p_ : Int32) (a : AS) (σ0 : S_) : Prop := RR a σ0
def post_X9_tell (p_ : Int32) (a : AS) (σ0 : S_) (r : Int32) (σ : S_) : Prop := r = res_tell p_ a ∧ RR (nxt_tell p_ a) σ
def pre_X8_greet (p_ : Int32) (a : AS) (σ0 : S_) : Prop := RC a σ0
def post_X8_greet (p_ : Int32) (a : AS) (σ0 : S_) (r : Int32) (σ : S_) : Prop := r = res_greet p_ a ∧ RC (nxt_greet p_ a) σ
def pre_X9_greet (p_ : Int32) (a : AS) (σ0 : S_) : Prop := RR a σ0
def post_X9_greet (p_ : Int32) (a : AS) (σ0 : S_) (r : Int32) (σ : S_) : Prop := r = res_greet p_ a ∧ RR (nxt_greet p_ a) σ
def pre_X8_as (p_ : Int32) (kind_ : Int32) (a : AS) (σ0 : S_) : Prop := RC a σ0
def post_X8_as (p_ : Int32) (kind_ : Int32) (a : AS) (σ0 : S_) (r : Int32) (σ : S_) : Prop := r = res_as p_ kind_ a ∧ RC (nxt_as p_ kind_ a) σ
def pre_X9_as (p_ : Int32) (kind_ : Int32) (a : AS) (σ0 : S_) : Prop := RR a σ0
def post_X9_as (p_ : Int32) (kind_ : Int32) (a : AS) (σ0 : S_) (r : Int32) (σ : S_) : Prop := r = res_as p_ kind_ a ∧ RR (nxt_as p_ kind_ a) σ
def pre_X8_trace (a : AS) (σ0 : S_) : Prop := RC a σ0
def post_X8_trace (a : AS) (σ0 : S_) (r : Int32) (σ : S_) : Prop := r = res_trace a ∧ RC (nxt_trace a) σ
def pre_X9_trace (a : AS) (σ0 : S_) : Prop := RR a σ0
def post_X9_trace (a : AS) (σ0 : S_) (r : Int32) (σ : S_) : Prop := r = res_trace a ∧ RR (nxt_trace a) σ
def pre_X8_fault (a : AS) (σ0 : S_) : Prop := RC a σ0
def post_X8_fault (a : AS) (σ0 : S_) (r : Int32) (σ : S_) : Prop := r = res_fault a ∧ RC (nxt_fault a) σ
def pre_X9_fault (a : AS) (σ0 : S_) : Prop := RR a σ0
def post_X9_fault (a : AS) (σ0 : S_) (r : Int32) (σ : S_) : Prop := r = res_fault a ∧ RR (nxt_fault a) σ
def pre_X8_many (what_ : Int32) (a : AS) (σ0 : S_) : Prop := RC a σ0
def post_X8_many (what_ : Int32) (a : AS) (σ0 : S_) (r : Int32) (σ : S_) : Prop := r = res_many what_ a ∧ RC (nxt_many what_ a) σ
def pre_X9_many (what_ : Int32) (a : AS) (σ0 : S_) : Prop := RR a σ0
def post_X9_many (what_ : Int32) (a : AS) (σ0 : S_) (r : Int32) (σ : S_) : Prop := r = res_many what_ a ∧ RR (nxt_many what_ a) σ

def pre_X6_settle (j_ : Nat) (fr_ : Int32) (n_ : Int32)  (σ0 : S_) : Prop := True
def post_X6_settle (j_ : Nat) (fr_ : Int32) (n_ : Int32)  (σ0 : S_) (σ : S_) : Prop := True
