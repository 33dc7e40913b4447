/-! the state of the class and of the reference: numbers, rows of numbers, the people (their row of references, what each is) -/
abbrev HC : Type := Nat × Nat × Int32 × Int32 × Int32
abbrev S_ : Type := ((Nat → Int32) × (Nat → Nat → Int32)) × (Nat → Option Nat) × List HC
def rdI (σ : S_) (k : Nat) : Int32 := σ.1.1 k
def rdA (σ : S_) (j : Nat) : Nat → Int32 := σ.1.2 j
def wrI (σ : S_) (k : Nat) (v : Int32) : S_ := ((upd σ.1.1 k v, σ.1.2), σ.2)
def wrA (σ : S_) (j : Nat) (f : Nat → Int32) : S_ := ((σ.1.1, va_up σ.1.2 j f), σ.2)
def wr2 (σ : S_) (j i : Nat) (v : Int32) : S_ := wrA σ j (upd (rdA σ j) i v)
def pg (σ : S_) (k : Nat) : Option Nat := σ.2.1 k
def hs (σ : S_) : List HC := σ.2.2
def nH (σ : S_) : Nat := σ.2.2.length
def hget (σ : S_) (q : Nat) : HC := σ.2.2.getD q (0, 0, 0, 0, 0)
def wrP (σ : S_) (g : Nat → Option Nat) (l : List HC) : S_ := (σ.1, g, l)
def hcell (h : HC) : Nat × va_E := (h.1, .inr (h.2.1, [.int h.2.2.1, .int h.2.2.2.1, .int h.2.2.2.2]))
def limN (j : Nat) : Nat := if j = 0 then 6 else if j = 1 then 8 else if j = 2 then 6 else 8
def b2i (c : Prop) [Decidable c] : Int32 := if c then 1 else 0
abbrev tysK (cy : Nat → ClassId) : List (ClassId × FieldType) := [(cy 0, .int), (cy 1, .boolean), (cy 2, .object "TaleBans$Sheet"), (cy 3, .object "TaleBans$Herder")]
def wC (cy : Nat → ClassId) (ad : Nat → Nat) (σ : S_) : va_W := [(ad 0, .inr (8, [.ref (ad 1), .ref (ad 10), .ref (ad 11), .ref (ad 21), .int (rdI σ 0)])), (ad 1, .inl (cy 2, 4, .inr (.inr (.inr (.inr (fun j => some (ad (2 + 2 * j)))))))), (ad 2, .inr (5, [.ref (ad 3), .int (rdI σ 12), .int (rdI σ 16)])), (ad 3, .inl (cy 0, 60, .inl (rdA σ 0))), (ad 4, .inr (5, [.ref (ad 5), .int (rdI σ 13), .int (rdI σ 17)])), (ad 5, .inl (cy 0, 60, .inl (rdA σ 1))), (ad 6, .inr (5, [.ref (ad 7), .int (rdI σ 14), .int (rdI σ 18)])), (ad 7, .inl (cy 0, 60, .inl (rdA σ 2))), (ad 8, .inr (5, [.ref (ad 9), .int (rdI σ 15), .int (rdI σ 19)])), (ad 9, .inl (cy 0, 60, .inl (rdA σ 3))), (ad 10, .inr (7, [.int (rdI σ 1)])), (ad 11, .inr (6, [.ref (ad 12), .ref (ad 13), .ref (ad 15), .ref (ad 17), .ref (ad 19), .int (rdI σ 2), .int (rdI σ 3), .int (rdI σ 4)])), (ad 12, .inl (cy 3, 6, .inr (.inr (.inr (.inr (pg σ)))))), (ad 13, .inr (3, [.int (nI (limN 0)), .ref (ad 14), .int (rdI σ 5)])), (ad 14, .inl (cy 0, 4 * limN 0, .inl (rdA σ 4))), (ad 15, .inr (3, [.int (nI (limN 1)), .ref (ad 16), .int (rdI σ 6)])), (ad 16, .inl (cy 0, 4 * limN 1, .inl (rdA σ 5))), (ad 17, .inr (3, [.int (nI (limN 2)), .ref (ad 18), .int (rdI σ 7)])), (ad 18, .inl (cy 0, 4 * limN 2, .inl (rdA σ 6))), (ad 19, .inr (3, [.int (nI (limN 3)), .ref (ad 20), .int (rdI σ 8)])), (ad 20, .inl (cy 0, 4 * limN 3, .inl (rdA σ 7))), (ad 21, .inr (4, [.ref (ad 11), .ref (ad 22), .ref (ad 23), .ref (ad 24), .ref (ad 25), .ref (ad 26), .ref (ad 27), .int (rdI σ 9), .int (rdI σ 10), .int (rdI σ 11)])), (ad 22, .inl (cy 0, 6, .inl (rdA σ 8))), (ad 23, .inl (cy 0, 6, .inl (rdA σ 9))), (ad 24, .inl (cy 0, 6, .inl (rdA σ 10))), (ad 25, .inl (cy 0, 36, .inl (rdA σ 11))), (ad 26, .inl (cy 0, 18, .inl (rdA σ 12))), (ad 27, .inl (cy 0, 3, .inl (rdA σ 13)))] ++ (hs σ).map hcell
def wR (cy : Nat → ClassId) (ad : Nat → Nat) (σ : S_) : va_W := [(ad 0, .inr (9, [.int (rdI σ 0), .int (rdI σ 1), .ref (ad 1), .ref (ad 2), .ref (ad 3), .int (rdI σ 2), .int (rdI σ 3), .int (rdI σ 4), .int (rdI σ 5), .ref (ad 4), .ref (ad 5), .ref (ad 6), .int (rdI σ 6), .ref (ad 7), .ref (ad 8), .ref (ad 9), .ref (ad 10), .int (rdI σ 7), .ref (ad 11), .ref (ad 12), .ref (ad 13), .ref (ad 14), .ref (ad 15), .ref (ad 16), .ref (ad 17), .int (rdI σ 8), .ref (ad 18), .ref (ad 19), .int (rdI σ 9), .ref (ad 20), .ref (ad 21), .ref (ad 22), .ref (ad 23), .ref (ad 24), .ref (ad 25), .ref (ad 26), .ref (ad 27), .int (rdI σ 10)])), (ad 1, .inl (cy 0, 6, .inl (rdA σ 1))), (ad 2, .inl (cy 0, 6, .inl (rdA σ 2))), (ad 3, .inl (cy 0, 6, .inl (rdA σ 3))), (ad 4, .inl (cy 0, 6, .inl (rdA σ 4))), (ad 5, .inl (cy 0, 6, .inl (rdA σ 5))), (ad 6, .inl (cy 0, 6, .inl (rdA σ 6))), (ad 7, .inl (cy 0, 6, .inl (rdA σ 7))), (ad 8, .inl (cy 0, 6, .inl (rdA σ 8))), (ad 9, .inl (cy 0, 6, .inl (rdA σ 9))), (ad 10, .inl (cy 1, 6, .inl (rdA σ 10))), (ad 11, .inl (cy 0, 8, .inl (rdA σ 11))), (ad 12, .inl (cy 0, 8, .inl (rdA σ 12))), (ad 13, .inl (cy 0, 8, .inl (rdA σ 13))), (ad 14, .inl (cy 0, 6, .inl (rdA σ 14))), (ad 15, .inl (cy 0, 36, .inl (rdA σ 15))), (ad 16, .inl (cy 0, 18, .inl (rdA σ 16))), (ad 17, .inl (cy 0, 3, .inl (rdA σ 17))), (ad 18, .inl (cy 0, 6, .inl (rdA σ 18))), (ad 19, .inl (cy 0, 6, .inl (rdA σ 19))), (ad 20, .inl (cy 0, 8, .inl (rdA σ 20))), (ad 21, .inl (cy 0, 8, .inl (rdA σ 21))), (ad 22, .inl (cy 0, 8, .inl (rdA σ 22))), (ad 23, .inl (cy 1, 8, .inl (rdA σ 23))), (ad 24, .inl (cy 0, 4, .inl (rdA σ 24))), (ad 25, .inl (cy 0, 4, .inl (rdA σ 25))), (ad 26, .inl (cy 0, 240, .inl (rdA σ 26))), (ad 27, .inl (cy 0, 60, .inl (rdA σ 27)))]
theorem wC_0 (cy : Nat → ClassId) (ad : Nat → Nat) (σ : S_) : (wC cy ad σ)[0]? = some (ad 0, .inr (8, [.ref (ad 1), .ref (ad 10), .ref (ad 11), .ref (ad 21), .int (rdI σ 0)])) := rfl
theorem wC_1 (cy : Nat → ClassId) (ad : Nat → Nat) (σ : S_) : (wC cy ad σ)[1]? = some (ad 1, .inl (cy 2, 4, .inr (.inr (.inr (.inr (fun j => some (ad (2 + 2 * j)))))))) := rfl
theorem wC_2 (cy : Nat → ClassId) (ad : Nat → Nat) (σ : S_) : (wC cy ad σ)[2]? = some (ad 2, .inr (5, [.ref (ad 3), .int (rdI σ 12), .int (rdI σ 16)])) := rfl
theorem wC_3 (cy : Nat → ClassId) (ad : Nat → Nat) (σ : S_) : (wC cy ad σ)[3]? = some (ad 3, .inl (cy 0, 60, .inl (rdA σ 0))) := rfl
theorem wC_4 (cy : Nat → ClassId) (ad : Nat → Nat) (σ : S_) : (wC cy ad σ)[4]? = some (ad 4, .inr (5, [.ref (ad 5), .int (rdI σ 13), .int (rdI σ 17)])) := rfl
theorem wC_5 (cy : Nat → ClassId) (ad : Nat → Nat) (σ : S_) : (wC cy ad σ)[5]? = some (ad 5, .inl (cy 0, 60, .inl (rdA σ 1))) := rfl
theorem wC_6 (cy : Nat → ClassId) (ad : Nat → Nat) (σ : S_) : (wC cy ad σ)[6]? = some (ad 6, .inr (5, [.ref (ad 7), .int (rdI σ 14), .int (rdI σ 18)])) := rfl
theorem wC_7 (cy : Nat → ClassId) (ad : Nat → Nat) (σ : S_) : (wC cy ad σ)[7]? = some (ad 7, .inl (cy 0, 60, .inl (rdA σ 2))) := rfl
theorem wC_8 (cy : Nat → ClassId) (ad : Nat → Nat) (σ : S_) : (wC cy ad σ)[8]? = some (ad 8, .inr (5, [.ref (ad 9), .int (rdI σ 15), .int (rdI σ 19)])) := rfl
theorem wC_9 (cy : Nat → ClassId) (ad : Nat → Nat) (σ : S_) : (wC cy ad σ)[9]? = some (ad 9, .inl (cy 0, 60, .inl (rdA σ 3))) := rfl
theorem wC_10 (cy : Nat → ClassId) (ad : Nat → Nat) (σ : S_) : (wC cy ad σ)[10]? = some (ad 10, .inr (7, [.int (rdI σ 1)])) := rfl
theorem wC_11 (cy : Nat → ClassId) (ad : Nat → Nat) (σ : S_) : (wC cy ad σ)[11]? = some (ad 11, .inr (6, [.ref (ad 12), .ref (ad 13), .ref (ad 15), .ref (ad 17), .ref (ad 19), .int (rdI σ 2), .int (rdI σ 3), .int (rdI σ 4)])) := rfl
theorem wC_12 (cy : Nat → ClassId) (ad : Nat → Nat) (σ : S_) : (wC cy ad σ)[12]? = some (ad 12, .inl (cy 3, 6, .inr (.inr (.inr (.inr (pg σ)))))) := rfl
theorem wC_13 (cy : Nat → ClassId) (ad : Nat → Nat) (σ : S_) : (wC cy ad σ)[13]? = some (ad 13, .inr (3, [.int (nI (limN 0)), .ref (ad 14), .int (rdI σ 5)])) := rfl
theorem wC_14 (cy : Nat → ClassId) (ad : Nat → Nat) (σ : S_) : (wC cy ad σ)[14]? = some (ad 14, .inl (cy 0, 4 * limN 0, .inl (rdA σ 4))) := rfl
theorem wC_15 (cy : Nat → ClassId) (ad : Nat → Nat) (σ : S_) : (wC cy ad σ)[15]? = some (ad 15, .inr (3, [.int (nI (limN 1)), .ref (ad 16), .int (rdI σ 6)])) := rfl
theorem wC_16 (cy : Nat → ClassId) (ad : Nat → Nat) (σ : S_) : (wC cy ad σ)[16]? = some (ad 16, .inl (cy 0, 4 * limN 1, .inl (rdA σ 5))) := rfl
theorem wC_17 (cy : Nat → ClassId) (ad : Nat → Nat) (σ : S_) : (wC cy ad σ)[17]? = some (ad 17, .inr (3, [.int (nI (limN 2)), .ref (ad 18), .int (rdI σ 7)])) := rfl
theorem wC_18 (cy : Nat → ClassId) (ad : Nat → Nat) (σ : S_) : (wC cy ad σ)[18]? = some (ad 18, .inl (cy 0, 4 * limN 2, .inl (rdA σ 6))) := rfl
theorem wC_19 (cy : Nat → ClassId) (ad : Nat → Nat) (σ : S_) : (wC cy ad σ)[19]? = some (ad 19, .inr (3, [.int (nI (limN 3)), .ref (ad 20), .int (rdI σ 8)])) := rfl
theorem wC_20 (cy : Nat → ClassId) (ad : Nat → Nat) (σ : S_) : (wC cy ad σ)[20]? = some (ad 20, .inl (cy 0, 4 * limN 3, .inl (rdA σ 7))) := rfl
theorem wC_21 (cy : Nat → ClassId) (ad : Nat → Nat) (σ : S_) : (wC cy ad σ)[21]? = some (ad 21, .inr (4, [.ref (ad 11), .ref (ad 22), .ref (ad 23), .ref (ad 24), .ref (ad 25), .ref (ad 26), .ref (ad 27), .int (rdI σ 9), .int (rdI σ 10), .int (rdI σ 11)])) := rfl
theorem wC_22 (cy : Nat → ClassId) (ad : Nat → Nat) (σ : S_) : (wC cy ad σ)[22]? = some (ad 22, .inl (cy 0, 6, .inl (rdA σ 8))) := rfl
theorem wC_23 (cy : Nat → ClassId) (ad : Nat → Nat) (σ : S_) : (wC cy ad σ)[23]? = some (ad 23, .inl (cy 0, 6, .inl (rdA σ 9))) := rfl
theorem wC_24 (cy : Nat → ClassId) (ad : Nat → Nat) (σ : S_) : (wC cy ad σ)[24]? = some (ad 24, .inl (cy 0, 6, .inl (rdA σ 10))) := rfl
theorem wC_25 (cy : Nat → ClassId) (ad : Nat → Nat) (σ : S_) : (wC cy ad σ)[25]? = some (ad 25, .inl (cy 0, 36, .inl (rdA σ 11))) := rfl
theorem wC_26 (cy : Nat → ClassId) (ad : Nat → Nat) (σ : S_) : (wC cy ad σ)[26]? = some (ad 26, .inl (cy 0, 18, .inl (rdA σ 12))) := rfl
theorem wC_27 (cy : Nat → ClassId) (ad : Nat → Nat) (σ : S_) : (wC cy ad σ)[27]? = some (ad 27, .inl (cy 0, 3, .inl (rdA σ 13))) := rfl
theorem wR_0 (cy : Nat → ClassId) (ad : Nat → Nat) (σ : S_) : (wR cy ad σ)[0]? = some (ad 0, .inr (9, [.int (rdI σ 0), .int (rdI σ 1), .ref (ad 1), .ref (ad 2), .ref (ad 3), .int (rdI σ 2), .int (rdI σ 3), .int (rdI σ 4), .int (rdI σ 5), .ref (ad 4), .ref (ad 5), .ref (ad 6), .int (rdI σ 6), .ref (ad 7), .ref (ad 8), .ref (ad 9), .ref (ad 10), .int (rdI σ 7), .ref (ad 11), .ref (ad 12), .ref (ad 13), .ref (ad 14), .ref (ad 15), .ref (ad 16), .ref (ad 17), .int (rdI σ 8), .ref (ad 18), .ref (ad 19), .int (rdI σ 9), .ref (ad 20), .ref (ad 21), .ref (ad 22), .ref (ad 23), .ref (ad 24), .ref (ad 25), .ref (ad 26), .ref (ad 27), .int (rdI σ 10)])) := rfl
theorem wR_1 (cy : Nat → ClassId) (ad : Nat → Nat) (σ : S_) : (wR cy ad σ)[1]? = some (ad 1, .inl (cy 0, 6, .inl (rdA σ 1))) := rfl
theorem wR_2 (cy : Nat → ClassId) (ad : Nat → Nat) (σ : S_) : (wR cy ad σ)[2]? = some (ad 2, .inl (cy 0, 6, .inl (rdA σ 2))) := rfl
theorem wR_3 (cy : Nat → ClassId) (ad : Nat → Nat) (σ : S_) : (wR cy ad σ)[3]? = some (ad 3, .inl (cy 0, 6, .inl (rdA σ 3))) := rfl
theorem wR_4 (cy : Nat → ClassId) (ad : Nat → Nat) (σ : S_) : (wR cy ad σ)[4]? = some (ad 4, .inl (cy 0, 6, .inl (rdA σ 4))) := rfl
theorem wR_5 (cy : Nat → ClassId) (ad : Nat → Nat) (σ : S_) : (wR cy ad σ)[5]? = some (ad 5, .inl (cy 0, 6, .inl (rdA σ 5))) := rfl
theorem wR_6 (cy : Nat → ClassId) (ad : Nat → Nat) (σ : S_) : (wR cy ad σ)[6]? = some (ad 6, .inl (cy 0, 6, .inl (rdA σ 6))) := rfl
theorem wR_7 (cy : Nat → ClassId) (ad : Nat → Nat) (σ : S_) : (wR cy ad σ)[7]? = some (ad 7, .inl (cy 0, 6, .inl (rdA σ 7))) := rfl
theorem wR_8 (cy : Nat → ClassId) (ad : Nat → Nat) (σ : S_) : (wR cy ad σ)[8]? = some (ad 8, .inl (cy 0, 6, .inl (rdA σ 8))) := rfl
theorem wR_9 (cy : Nat → ClassId) (ad : Nat → Nat) (σ : S_) : (wR cy ad σ)[9]? = some (ad 9, .inl (cy 0, 6, .inl (rdA σ 9))) := rfl
theorem wR_10 (cy : Nat → ClassId) (ad : Nat → Nat) (σ : S_) : (wR cy ad σ)[10]? = some (ad 10, .inl (cy 1, 6, .inl (rdA σ 10))) := rfl
theorem wR_11 (cy : Nat → ClassId) (ad : Nat → Nat) (σ : S_) : (wR cy ad σ)[11]? = some (ad 11, .inl (cy 0, 8, .inl (rdA σ 11))) := rfl
theorem wR_12 (cy : Nat → ClassId) (ad : Nat → Nat) (σ : S_) : (wR cy ad σ)[12]? = some (ad 12, .inl (cy 0, 8, .inl (rdA σ 12))) := rfl
theorem wR_13 (cy : Nat → ClassId) (ad : Nat → Nat) (σ : S_) : (wR cy ad σ)[13]? = some (ad 13, .inl (cy 0, 8, .inl (rdA σ 13))) := rfl
theorem wR_14 (cy : Nat → ClassId) (ad : Nat → Nat) (σ : S_) : (wR cy ad σ)[14]? = some (ad 14, .inl (cy 0, 6, .inl (rdA σ 14))) := rfl
theorem wR_15 (cy : Nat → ClassId) (ad : Nat → Nat) (σ : S_) : (wR cy ad σ)[15]? = some (ad 15, .inl (cy 0, 36, .inl (rdA σ 15))) := rfl
theorem wR_16 (cy : Nat → ClassId) (ad : Nat → Nat) (σ : S_) : (wR cy ad σ)[16]? = some (ad 16, .inl (cy 0, 18, .inl (rdA σ 16))) := rfl
theorem wR_17 (cy : Nat → ClassId) (ad : Nat → Nat) (σ : S_) : (wR cy ad σ)[17]? = some (ad 17, .inl (cy 0, 3, .inl (rdA σ 17))) := rfl
theorem wR_18 (cy : Nat → ClassId) (ad : Nat → Nat) (σ : S_) : (wR cy ad σ)[18]? = some (ad 18, .inl (cy 0, 6, .inl (rdA σ 18))) := rfl
theorem wR_19 (cy : Nat → ClassId) (ad : Nat → Nat) (σ : S_) : (wR cy ad σ)[19]? = some (ad 19, .inl (cy 0, 6, .inl (rdA σ 19))) := rfl
theorem wR_20 (cy : Nat → ClassId) (ad : Nat → Nat) (σ : S_) : (wR cy ad σ)[20]? = some (ad 20, .inl (cy 0, 8, .inl (rdA σ 20))) := rfl
theorem wR_21 (cy : Nat → ClassId) (ad : Nat → Nat) (σ : S_) : (wR cy ad σ)[21]? = some (ad 21, .inl (cy 0, 8, .inl (rdA σ 21))) := rfl
theorem wR_22 (cy : Nat → ClassId) (ad : Nat → Nat) (σ : S_) : (wR cy ad σ)[22]? = some (ad 22, .inl (cy 0, 8, .inl (rdA σ 22))) := rfl
theorem wR_23 (cy : Nat → ClassId) (ad : Nat → Nat) (σ : S_) : (wR cy ad σ)[23]? = some (ad 23, .inl (cy 1, 8, .inl (rdA σ 23))) := rfl
theorem wR_24 (cy : Nat → ClassId) (ad : Nat → Nat) (σ : S_) : (wR cy ad σ)[24]? = some (ad 24, .inl (cy 0, 4, .inl (rdA σ 24))) := rfl
theorem wR_25 (cy : Nat → ClassId) (ad : Nat → Nat) (σ : S_) : (wR cy ad σ)[25]? = some (ad 25, .inl (cy 0, 4, .inl (rdA σ 25))) := rfl
theorem wR_26 (cy : Nat → ClassId) (ad : Nat → Nat) (σ : S_) : (wR cy ad σ)[26]? = some (ad 26, .inl (cy 0, 240, .inl (rdA σ 26))) := rfl
theorem wR_27 (cy : Nat → ClassId) (ad : Nat → Nat) (σ : S_) : (wR cy ad σ)[27]? = some (ad 27, .inl (cy 0, 60, .inl (rdA σ 27))) := rfl
theorem wC_sh (cy : Nat → ClassId) (ad : Nat → Nat) (σ : S_) {j : Nat} (hj : j < 4) : (wC cy ad σ)[2 + 2 * j]? = some (ad (2 + 2 * j), .inr (5, [.ref (ad (3 + 2 * j)), .int (rdI σ (12 + j)), .int (rdI σ (16 + j))])) := by
  match j, hj with
  | 0, _ => rfl
  | 1, _ => rfl
  | 2, _ => rfl
  | 3, _ => rfl
theorem wC_shA (cy : Nat → ClassId) (ad : Nat → Nat) (σ : S_) {j : Nat} (hj : j < 4) : (wC cy ad σ)[3 + 2 * j]? = some (ad (3 + 2 * j), .inl (cy 0, 60, .inl (rdA σ j))) := by
  match j, hj with
  | 0, _ => rfl
  | 1, _ => rfl
  | 2, _ => rfl
  | 3, _ => rfl
theorem wC_le (cy : Nat → ClassId) (ad : Nat → Nat) (σ : S_) {j : Nat} (hj : j < 4) : (wC cy ad σ)[13 + 2 * j]? = some (ad (13 + 2 * j), .inr (3, [.int (nI (limN j)), .ref (ad (14 + 2 * j)), .int (rdI σ (5 + j))])) := by
  match j, hj with
  | 0, _ => rfl
  | 1, _ => rfl
  | 2, _ => rfl
  | 3, _ => rfl
theorem wC_leA (cy : Nat → ClassId) (ad : Nat → Nat) (σ : S_) {j : Nat} (hj : j < 4) : (wC cy ad σ)[14 + 2 * j]? = some (ad (14 + 2 * j), .inl (cy 0, 4 * limN j, .inl (rdA σ (4 + j)))) := by
  match j, hj with
  | 0, _ => rfl
  | 1, _ => rfl
  | 2, _ => rfl
  | 3, _ => rfl
theorem wC_h (cy : Nat → ClassId) (ad : Nat → Nat) (σ : S_) {q : Nat} (hq : q < nH σ) : (wC cy ad σ)[28 + q]? = some ((hget σ q).1, .inr ((hget σ q).2.1, [.int (hget σ q).2.2.1, .int (hget σ q).2.2.2.1, .int (hget σ q).2.2.2.2])) := by
  have h1 : (wC cy ad σ)[28 + q]? = ((hs σ).map hcell)[28 + q - 28]? := List.getElem?_append_right (Nat.le_add_right 28 q)
  rw [h1, Nat.add_sub_cancel_left, List.getElem?_map]
  have h2 : (hs σ)[q]? = some (hget σ q) := by unfold hget hs; rw [List.getD_eq_getElem?_getD, List.getElem?_eq_getElem hq]; rfl
  rw [h2]; rfl
theorem wC_sh_lane (cy : Nat → ClassId) (ad : Nat → Nat) (σ : S_) {j : Nat} (hj : j < 4) (v : Int32) : (wC cy ad σ).set (2 + 2 * j) (ad (2 + 2 * j), .inr (5, [.ref (ad (3 + 2 * j)), .int v, .int (rdI σ (16 + j))])) = wC cy ad (wrI σ (12 + j) v) := by
  match j, hj with
  | 0, _ => rfl
  | 1, _ => rfl
  | 2, _ => rfl
  | 3, _ => rfl
theorem wC_sh_len (cy : Nat → ClassId) (ad : Nat → Nat) (σ : S_) {j : Nat} (hj : j < 4) (v : Int32) : (wC cy ad σ).set (2 + 2 * j) (ad (2 + 2 * j), .inr (5, [.ref (ad (3 + 2 * j)), .int (rdI σ (12 + j)), .int v])) = wC cy ad (wrI σ (16 + j) v) := by
  match j, hj with
  | 0, _ => rfl
  | 1, _ => rfl
  | 2, _ => rfl
  | 3, _ => rfl
theorem wC_shA_set (cy : Nat → ClassId) (ad : Nat → Nat) (σ : S_) {j : Nat} (hj : j < 4) (f : Nat → Int32) : (wC cy ad σ).set (3 + 2 * j) (ad (3 + 2 * j), .inl (cy 0, 60, .inl f)) = wC cy ad (wrA σ j f) := by
  match j, hj with
  | 0, _ => rfl
  | 1, _ => rfl
  | 2, _ => rfl
  | 3, _ => rfl
theorem wC_le_cnt (cy : Nat → ClassId) (ad : Nat → Nat) (σ : S_) {j : Nat} (hj : j < 4) (v : Int32) : (wC cy ad σ).set (13 + 2 * j) (ad (13 + 2 * j), .inr (3, [.int (nI (limN j)), .ref (ad (14 + 2 * j)), .int v])) = wC cy ad (wrI σ (5 + j) v) := by
  match j, hj with
  | 0, _ => rfl
  | 1, _ => rfl
  | 2, _ => rfl
  | 3, _ => rfl
theorem wC_leA_set (cy : Nat → ClassId) (ad : Nat → Nat) (σ : S_) {j : Nat} (hj : j < 4) (f : Nat → Int32) : (wC cy ad σ).set (14 + 2 * j) (ad (14 + 2 * j), .inl (cy 0, 4 * limN j, .inl f)) = wC cy ad (wrA σ (4 + j) f) := by
  match j, hj with
  | 0, _ => rfl
  | 1, _ => rfl
  | 2, _ => rfl
  | 3, _ => rfl
/-! the words of nest mates -/
def nwL : List Cond := [.fieldLinkNest "TaleBans" 234 "TaleBans$Trace" "number" "I" "TaleBans", .fieldLinkNest "TaleBans$Seasons" 85 "TaleBans$Ledger" "count" "I" "TaleBans", .fieldLinkNest "TaleBans$Steppe" 80 "TaleBans$Ledger" "count" "I" "TaleBans", .fieldLinkNest "TaleBans" 237 "TaleBans$Ledger" "count" "I" "TaleBans", .fieldLinkNest "TaleBans$Seasons" 81 "TaleBans$Steppe" "tales" "LTaleBans$Ledger;" "TaleBans", .fieldLinkNest "TaleBans" 101 "TaleBans$Steppe" "tales" "LTaleBans$Ledger;" "TaleBans", .fieldLinkNest "TaleBans$Seasons" 90 "TaleBans$Steppe" "moves" "LTaleBans$Ledger;" "TaleBans", .fieldLinkNest "TaleBans" 121 "TaleBans$Steppe" "moves" "LTaleBans$Ledger;" "TaleBans", .fieldLinkNest "TaleBans" 179 "TaleBans$Steppe" "needs" "LTaleBans$Ledger;" "TaleBans", .fieldLinkNest "TaleBans" 114 "TaleBans$Steppe" "readings" "LTaleBans$Ledger;" "TaleBans", .fieldLinkNest "TaleBans$Seasons" 44 "TaleBans$Steppe" "persons" "I" "TaleBans", .fieldLinkNest "TaleBans" 69 "TaleBans$Steppe" "persons" "I" "TaleBans", .fieldLinkNest "TaleBans" 91 "TaleBans$Steppe" "paid" "I" "TaleBans", .fieldLinkNest "TaleBans" 128 "TaleBans$Steppe" "law" "I" "TaleBans", .fieldLinkNest "TaleBans" 217 "TaleBans$Sheet" "cells" "[I" "TaleBans", .fieldLinkNest "TaleBans" 211 "TaleBans$Sheet" "lane" "I" "TaleBans", .fieldLinkNest "TaleBans" 82 "TaleBans$Herder" "minds" "I" "TaleBans", .fieldLinkNest "TaleBans$Seasons" 53 "TaleBans$Herder" "home" "I" "TaleBans", .fieldLinkNest "TaleBans" 85 "TaleBans$Herder" "home" "I" "TaleBans", .methodLinkNest "TaleBans" 19 ⟨"TaleBans$Trace", "<init>", "()V"⟩ "TaleBans", .methodLinkNest "TaleBans" 26 ⟨"TaleBans$Steppe", "<init>", "()V"⟩ "TaleBans", .methodLinkNest "TaleBans$Steppe" 19 ⟨"TaleBans$Ledger", "<init>", "(I)V"⟩ "TaleBans", .methodLinkNest "TaleBans" 33 ⟨"TaleBans$Seasons", "<init>", "(LTaleBans$Steppe;)V"⟩ "TaleBans", .methodLinkNest "TaleBans" 40 ⟨"TaleBans$Sheet", "<init>", "()V"⟩ "TaleBans", .methodLinkNest "TaleBans" 53 ⟨"TaleBans$Sheet", "faultOfTaking", "(III)I"⟩ "TaleBans", .methodLinkNest "TaleBans" 61 ⟨"TaleBans$Steppe", "firstFault", "(LTaleBans$Sheet;II)I"⟩ "TaleBans", .methodLinkNest "TaleBans$Steppe" 35 ⟨"TaleBans$Sheet", "at", "(I)I"⟩ "TaleBans", .methodLinkNest "TaleBans$Sheet" 22 ⟨"TaleBans", "isOneOf", "(II)Z"⟩ "TaleBans", .methodLinkNest "TaleBans" 65 ⟨"TaleBans$Steppe", "settle", "(LTaleBans$Sheet;II)V"⟩ "TaleBans", .methodLinkNest "TaleBans$Steppe" 70 ⟨"TaleBans$Granny", "<init>", "(III)V"⟩ "TaleBans", .methodLinkNest "TaleBans$Granny" 1 ⟨"TaleBans$Bard", "<init>", "(III)V"⟩ "TaleBans", .methodLinkNest "TaleBans$Bard" 1 ⟨"TaleBans$Herder", "<init>", "(III)V"⟩ "TaleBans", .methodLinkNest "TaleBans$Steppe" 75 ⟨"TaleBans$Bard", "<init>", "(III)V"⟩ "TaleBans", .methodLinkNest "TaleBans$Steppe" 76 ⟨"TaleBans$Herder", "<init>", "(III)V"⟩ "TaleBans", .methodLinkNest "TaleBans$Steppe" 59 ⟨"TaleBans$Ledger", "clear", "()V"⟩ "TaleBans", .methodLinkNest "TaleBans" 72 ⟨"TaleBans$Steppe", "person", "(I)LTaleBans$Herder;"⟩ "TaleBans", .methodLinkNest "TaleBans$Steppe" 77 ⟨"TaleBans", "isOneOf", "(II)Z"⟩ "TaleBans", .methodLinkNest "TaleBans" 124 ⟨"TaleBans$Steppe", "isEmpty", "()Z"⟩ "TaleBans", .methodLinkNest "TaleBans" 105 ⟨"TaleBans$Ledger", "add", "(IIII)I"⟩ "TaleBans", .methodLinkNest "TaleBans$Ledger" 26 ⟨"TaleBans", "isOneOf", "(II)Z"⟩ "TaleBans", .methodLinkNest "TaleBans" 111 ⟨"TaleBans$Ledger", "takeBack", "(I)I"⟩ "TaleBans", .methodLinkNest "TaleBans" 117 ⟨"TaleBans$Ledger", "keepBelow", "(II)V"⟩ "TaleBans", .methodLinkNest "TaleBans" 131 ⟨"TaleBans$Ledger", "has", "(I)Z"⟩ "TaleBans", .methodLinkNest "TaleBans" 135 ⟨"TaleBans$Ledger", "at", "(II)I"⟩ "TaleBans", .methodLinkNest "TaleBans" 139 ⟨"TaleBans$Ledger", "set", "(III)V"⟩ "TaleBans", .methodLinkNest "TaleBans" 161 ⟨"TaleBans$Seasons", "begin", "(II)V"⟩ "TaleBans", .methodLinkNest "TaleBans$Seasons" 49 ⟨"TaleBans$Steppe", "person", "(I)LTaleBans$Herder;"⟩ "TaleBans", .methodLinkNest "TaleBans" 164 ⟨"TaleBans$Seasons", "pass", "()V"⟩ "TaleBans", .methodLinkNest "TaleBans$Seasons" 93 ⟨"TaleBans$Ledger", "at", "(II)I"⟩ "TaleBans", .methodLinkNest "TaleBans$Seasons" 97 ⟨"TaleBans", "isOneOf", "(II)Z"⟩ "TaleBans", .methodLinkNest "TaleBans$Seasons" 112 ⟨"TaleBans", "isIn", "(II)Z"⟩ "TaleBans", .methodLinkNest "TaleBans" 146 ⟨"TaleBans$Seasons", "talesOf", "(I)I"⟩ "TaleBans", .methodLinkNest "TaleBans" 149 ⟨"TaleBans$Seasons", "placeOf", "(I)I"⟩ "TaleBans", .methodLinkNest "TaleBans" 152 ⟨"TaleBans$Seasons", "taleAt", "(I)I"⟩ "TaleBans", .methodLinkNest "TaleBans" 155 ⟨"TaleBans$Seasons", "bannedDeeds", "()I"⟩ "TaleBans", .methodLinkNest "TaleBans" 240 ⟨"TaleBans$Seasons", "talesOfAll", "()I"⟩ "TaleBans", .methodLinkNest "TaleBans" 167 ⟨"TaleBans$Seasons", "isBanned", "(I)Z"⟩ "TaleBans", .methodLinkNest "TaleBans" 182 ⟨"TaleBans$Steppe", "firstUnmet", "(I)I"⟩ "TaleBans", .methodLinkNest "TaleBans$Steppe" 83 ⟨"TaleBans$Ledger", "at", "(II)I"⟩ "TaleBans", .methodLinkNest "TaleBans$Steppe" 85 ⟨"TaleBans", "isIn", "(II)Z"⟩ "TaleBans", .methodLinkNest "TaleBans" 185 ⟨"TaleBans$Sheet", "hasOnlyBelow", "(III)Z"⟩ "TaleBans", .methodLinkNest "TaleBans" 209 ⟨"TaleBans$Sheet", "at", "(I)I"⟩ "TaleBans", .methodLinkNest "TaleBans" 197 ⟨"TaleBans$Sheet", "renew", "(II)V"⟩ "TaleBans", .methodLinkNest "TaleBans" 200 ⟨"TaleBans$Sheet", "hasNothing", "()Z"⟩ "TaleBans", .methodLinkNest "TaleBans" 203 ⟨"TaleBans$Sheet", "clear", "()V"⟩ "TaleBans", .methodLinkNest "TaleBans" 206 ⟨"TaleBans$Sheet", "has", "(I)Z"⟩ "TaleBans", .methodLinkNest "TaleBans" 207 ⟨"TaleBans$Sheet", "set", "(II)V"⟩ "TaleBans", .methodLinkNest "TaleBans" 214 ⟨"TaleBans$Sheet", "reaches", "(II)Z"⟩ "TaleBans", .methodLinkNest "TaleBans$Bard" 11 ⟨"TaleBans$Trace", "leave", "(I)V"⟩ "TaleBans", .methodLinkNest "TaleBans$Granny" 11 ⟨"TaleBans$Trace", "leave", "(I)V"⟩ "TaleBans", .methodLinkNest "TaleBans$Herder" 23 ⟨"TaleBans$Trace", "leave", "(I)V"⟩ "TaleBans"]
def NW (U : State) : Prop := ∀ w ∈ nwL, va_Nw w U
def nw_is (w : Cond) : Bool := match w with
  | .fieldLinkNest _ _ _ _ _ _ => true
  | .methodLinkNest _ _ _ _ => true
  | _ => false
theorem nw_all : ∀ w ∈ nwL, nw_is w = true := List.all_eq_true.mp (by decide +kernel)
theorem NW.warm {s U : State} (hW : s.WarmedH U.vm) (h : NW s) : NW U := by
  intro w hw
  have h1 := h w hw
  have h2 := nw_all w hw
  cases w <;> first | exact (Bool.false_ne_true h2).elim | exact va_Nw.warmF hW h1 | exact va_Nw.warmM hW h1
theorem NW.same {u U : State} (hvm : u.vm = U.vm) (h : NW u) : NW U := by
  intro w hw
  have h1 := h w hw
  have h2 := nw_all w hw
  cases w <;> first | exact (Bool.false_ne_true h2).elim | exact va_Nw.same rfl hvm h1
theorem nwm_0 {U : State} (h : NW U) : va_Nw (.fieldLinkNest "TaleBans" 234 "TaleBans$Trace" "number" "I" "TaleBans") U := h _ (List.mem_of_getElem? (i := 0) rfl)
theorem nwm_1 {U : State} (h : NW U) : va_Nw (.fieldLinkNest "TaleBans$Seasons" 85 "TaleBans$Ledger" "count" "I" "TaleBans") U := h _ (List.mem_of_getElem? (i := 1) rfl)
theorem nwm_2 {U : State} (h : NW U) : va_Nw (.fieldLinkNest "TaleBans$Steppe" 80 "TaleBans$Ledger" "count" "I" "TaleBans") U := h _ (List.mem_of_getElem? (i := 2) rfl)
theorem nwm_3 {U : State} (h : NW U) : va_Nw (.fieldLinkNest "TaleBans" 237 "TaleBans$Ledger" "count" "I" "TaleBans") U := h _ (List.mem_of_getElem? (i := 3) rfl)
theorem nwm_4 {U : State} (h : NW U) : va_Nw (.fieldLinkNest "TaleBans$Seasons" 81 "TaleBans$Steppe" "tales" "LTaleBans$Ledger;" "TaleBans") U := h _ (List.mem_of_getElem? (i := 4) rfl)
theorem nwm_5 {U : State} (h : NW U) : va_Nw (.fieldLinkNest "TaleBans" 101 "TaleBans$Steppe" "tales" "LTaleBans$Ledger;" "TaleBans") U := h _ (List.mem_of_getElem? (i := 5) rfl)
theorem nwm_6 {U : State} (h : NW U) : va_Nw (.fieldLinkNest "TaleBans$Seasons" 90 "TaleBans$Steppe" "moves" "LTaleBans$Ledger;" "TaleBans") U := h _ (List.mem_of_getElem? (i := 6) rfl)
theorem nwm_7 {U : State} (h : NW U) : va_Nw (.fieldLinkNest "TaleBans" 121 "TaleBans$Steppe" "moves" "LTaleBans$Ledger;" "TaleBans") U := h _ (List.mem_of_getElem? (i := 7) rfl)
theorem nwm_8 {U : State} (h : NW U) : va_Nw (.fieldLinkNest "TaleBans" 179 "TaleBans$Steppe" "needs" "LTaleBans$Ledger;" "TaleBans") U := h _ (List.mem_of_getElem? (i := 8) rfl)
theorem nwm_9 {U : State} (h : NW U) : va_Nw (.fieldLinkNest "TaleBans" 114 "TaleBans$Steppe" "readings" "LTaleBans$Ledger;" "TaleBans") U := h _ (List.mem_of_getElem? (i := 9) rfl)
theorem nwm_10 {U : State} (h : NW U) : va_Nw (.fieldLinkNest "TaleBans$Seasons" 44 "TaleBans$Steppe" "persons" "I" "TaleBans") U := h _ (List.mem_of_getElem? (i := 10) rfl)
theorem nwm_11 {U : State} (h : NW U) : va_Nw (.fieldLinkNest "TaleBans" 69 "TaleBans$Steppe" "persons" "I" "TaleBans") U := h _ (List.mem_of_getElem? (i := 11) rfl)
theorem nwm_12 {U : State} (h : NW U) : va_Nw (.fieldLinkNest "TaleBans" 91 "TaleBans$Steppe" "paid" "I" "TaleBans") U := h _ (List.mem_of_getElem? (i := 12) rfl)
theorem nwm_13 {U : State} (h : NW U) : va_Nw (.fieldLinkNest "TaleBans" 128 "TaleBans$Steppe" "law" "I" "TaleBans") U := h _ (List.mem_of_getElem? (i := 13) rfl)
theorem nwm_14 {U : State} (h : NW U) : va_Nw (.fieldLinkNest "TaleBans" 217 "TaleBans$Sheet" "cells" "[I" "TaleBans") U := h _ (List.mem_of_getElem? (i := 14) rfl)
theorem nwm_15 {U : State} (h : NW U) : va_Nw (.fieldLinkNest "TaleBans" 211 "TaleBans$Sheet" "lane" "I" "TaleBans") U := h _ (List.mem_of_getElem? (i := 15) rfl)
theorem nwm_16 {U : State} (h : NW U) : va_Nw (.fieldLinkNest "TaleBans" 82 "TaleBans$Herder" "minds" "I" "TaleBans") U := h _ (List.mem_of_getElem? (i := 16) rfl)
theorem nwm_17 {U : State} (h : NW U) : va_Nw (.fieldLinkNest "TaleBans$Seasons" 53 "TaleBans$Herder" "home" "I" "TaleBans") U := h _ (List.mem_of_getElem? (i := 17) rfl)
theorem nwm_18 {U : State} (h : NW U) : va_Nw (.fieldLinkNest "TaleBans" 85 "TaleBans$Herder" "home" "I" "TaleBans") U := h _ (List.mem_of_getElem? (i := 18) rfl)
theorem nwm_19 {U : State} (h : NW U) : va_Nw (.methodLinkNest "TaleBans" 19 ⟨"TaleBans$Trace", "<init>", "()V"⟩ "TaleBans") U := h _ (List.mem_of_getElem? (i := 19) rfl)
theorem nwm_20 {U : State} (h : NW U) : va_Nw (.methodLinkNest "TaleBans" 26 ⟨"TaleBans$Steppe", "<init>", "()V"⟩ "TaleBans") U := h _ (List.mem_of_getElem? (i := 20) rfl)
theorem nwm_21 {U : State} (h : NW U) : va_Nw (.methodLinkNest "TaleBans$Steppe" 19 ⟨"TaleBans$Ledger", "<init>", "(I)V"⟩ "TaleBans") U := h _ (List.mem_of_getElem? (i := 21) rfl)
theorem nwm_22 {U : State} (h : NW U) : va_Nw (.methodLinkNest "TaleBans" 33 ⟨"TaleBans$Seasons", "<init>", "(LTaleBans$Steppe;)V"⟩ "TaleBans") U := h _ (List.mem_of_getElem? (i := 22) rfl)
theorem nwm_23 {U : State} (h : NW U) : va_Nw (.methodLinkNest "TaleBans" 40 ⟨"TaleBans$Sheet", "<init>", "()V"⟩ "TaleBans") U := h _ (List.mem_of_getElem? (i := 23) rfl)
theorem nwm_24 {U : State} (h : NW U) : va_Nw (.methodLinkNest "TaleBans" 53 ⟨"TaleBans$Sheet", "faultOfTaking", "(III)I"⟩ "TaleBans") U := h _ (List.mem_of_getElem? (i := 24) rfl)
theorem nwm_25 {U : State} (h : NW U) : va_Nw (.methodLinkNest "TaleBans" 61 ⟨"TaleBans$Steppe", "firstFault", "(LTaleBans$Sheet;II)I"⟩ "TaleBans") U := h _ (List.mem_of_getElem? (i := 25) rfl)
theorem nwm_26 {U : State} (h : NW U) : va_Nw (.methodLinkNest "TaleBans$Steppe" 35 ⟨"TaleBans$Sheet", "at", "(I)I"⟩ "TaleBans") U := h _ (List.mem_of_getElem? (i := 26) rfl)
theorem nwm_27 {U : State} (h : NW U) : va_Nw (.methodLinkNest "TaleBans$Sheet" 22 ⟨"TaleBans", "isOneOf", "(II)Z"⟩ "TaleBans") U := h _ (List.mem_of_getElem? (i := 27) rfl)
theorem nwm_28 {U : State} (h : NW U) : va_Nw (.methodLinkNest "TaleBans" 65 ⟨"TaleBans$Steppe", "settle", "(LTaleBans$Sheet;II)V"⟩ "TaleBans") U := h _ (List.mem_of_getElem? (i := 28) rfl)
theorem nwm_29 {U : State} (h : NW U) : va_Nw (.methodLinkNest "TaleBans$Steppe" 70 ⟨"TaleBans$Granny", "<init>", "(III)V"⟩ "TaleBans") U := h _ (List.mem_of_getElem? (i := 29) rfl)
theorem nwm_30 {U : State} (h : NW U) : va_Nw (.methodLinkNest "TaleBans$Granny" 1 ⟨"TaleBans$Bard", "<init>", "(III)V"⟩ "TaleBans") U := h _ (List.mem_of_getElem? (i := 30) rfl)
theorem nwm_31 {U : State} (h : NW U) : va_Nw (.methodLinkNest "TaleBans$Bard" 1 ⟨"TaleBans$Herder", "<init>", "(III)V"⟩ "TaleBans") U := h _ (List.mem_of_getElem? (i := 31) rfl)
theorem nwm_32 {U : State} (h : NW U) : va_Nw (.methodLinkNest "TaleBans$Steppe" 75 ⟨"TaleBans$Bard", "<init>", "(III)V"⟩ "TaleBans") U := h _ (List.mem_of_getElem? (i := 32) rfl)
theorem nwm_33 {U : State} (h : NW U) : va_Nw (.methodLinkNest "TaleBans$Steppe" 76 ⟨"TaleBans$Herder", "<init>", "(III)V"⟩ "TaleBans") U := h _ (List.mem_of_getElem? (i := 33) rfl)
theorem nwm_34 {U : State} (h : NW U) : va_Nw (.methodLinkNest "TaleBans$Steppe" 59 ⟨"TaleBans$Ledger", "clear", "()V"⟩ "TaleBans") U := h _ (List.mem_of_getElem? (i := 34) rfl)
theorem nwm_35 {U : State} (h : NW U) : va_Nw (.methodLinkNest "TaleBans" 72 ⟨"TaleBans$Steppe", "person", "(I)LTaleBans$Herder;"⟩ "TaleBans") U := h _ (List.mem_of_getElem? (i := 35) rfl)
theorem nwm_36 {U : State} (h : NW U) : va_Nw (.methodLinkNest "TaleBans$Steppe" 77 ⟨"TaleBans", "isOneOf", "(II)Z"⟩ "TaleBans") U := h _ (List.mem_of_getElem? (i := 36) rfl)
theorem nwm_37 {U : State} (h : NW U) : va_Nw (.methodLinkNest "TaleBans" 124 ⟨"TaleBans$Steppe", "isEmpty", "()Z"⟩ "TaleBans") U := h _ (List.mem_of_getElem? (i := 37) rfl)
theorem nwm_38 {U : State} (h : NW U) : va_Nw (.methodLinkNest "TaleBans" 105 ⟨"TaleBans$Ledger", "add", "(IIII)I"⟩ "TaleBans") U := h _ (List.mem_of_getElem? (i := 38) rfl)
theorem nwm_39 {U : State} (h : NW U) : va_Nw (.methodLinkNest "TaleBans$Ledger" 26 ⟨"TaleBans", "isOneOf", "(II)Z"⟩ "TaleBans") U := h _ (List.mem_of_getElem? (i := 39) rfl)
theorem nwm_40 {U : State} (h : NW U) : va_Nw (.methodLinkNest "TaleBans" 111 ⟨"TaleBans$Ledger", "takeBack", "(I)I"⟩ "TaleBans") U := h _ (List.mem_of_getElem? (i := 40) rfl)
theorem nwm_41 {U : State} (h : NW U) : va_Nw (.methodLinkNest "TaleBans" 117 ⟨"TaleBans$Ledger", "keepBelow", "(II)V"⟩ "TaleBans") U := h _ (List.mem_of_getElem? (i := 41) rfl)
theorem nwm_42 {U : State} (h : NW U) : va_Nw (.methodLinkNest "TaleBans" 131 ⟨"TaleBans$Ledger", "has", "(I)Z"⟩ "TaleBans") U := h _ (List.mem_of_getElem? (i := 42) rfl)
theorem nwm_43 {U : State} (h : NW U) : va_Nw (.methodLinkNest "TaleBans" 135 ⟨"TaleBans$Ledger", "at", "(II)I"⟩ "TaleBans") U := h _ (List.mem_of_getElem? (i := 43) rfl)
theorem nwm_44 {U : State} (h : NW U) : va_Nw (.methodLinkNest "TaleBans" 139 ⟨"TaleBans$Ledger", "set", "(III)V"⟩ "TaleBans") U := h _ (List.mem_of_getElem? (i := 44) rfl)
theorem nwm_45 {U : State} (h : NW U) : va_Nw (.methodLinkNest "TaleBans" 161 ⟨"TaleBans$Seasons", "begin", "(II)V"⟩ "TaleBans") U := h _ (List.mem_of_getElem? (i := 45) rfl)
theorem nwm_46 {U : State} (h : NW U) : va_Nw (.methodLinkNest "TaleBans$Seasons" 49 ⟨"TaleBans$Steppe", "person", "(I)LTaleBans$Herder;"⟩ "TaleBans") U := h _ (List.mem_of_getElem? (i := 46) rfl)
theorem nwm_47 {U : State} (h : NW U) : va_Nw (.methodLinkNest "TaleBans" 164 ⟨"TaleBans$Seasons", "pass", "()V"⟩ "TaleBans") U := h _ (List.mem_of_getElem? (i := 47) rfl)
theorem nwm_48 {U : State} (h : NW U) : va_Nw (.methodLinkNest "TaleBans$Seasons" 93 ⟨"TaleBans$Ledger", "at", "(II)I"⟩ "TaleBans") U := h _ (List.mem_of_getElem? (i := 48) rfl)
theorem nwm_49 {U : State} (h : NW U) : va_Nw (.methodLinkNest "TaleBans$Seasons" 97 ⟨"TaleBans", "isOneOf", "(II)Z"⟩ "TaleBans") U := h _ (List.mem_of_getElem? (i := 49) rfl)
theorem nwm_50 {U : State} (h : NW U) : va_Nw (.methodLinkNest "TaleBans$Seasons" 112 ⟨"TaleBans", "isIn", "(II)Z"⟩ "TaleBans") U := h _ (List.mem_of_getElem? (i := 50) rfl)
theorem nwm_51 {U : State} (h : NW U) : va_Nw (.methodLinkNest "TaleBans" 146 ⟨"TaleBans$Seasons", "talesOf", "(I)I"⟩ "TaleBans") U := h _ (List.mem_of_getElem? (i := 51) rfl)
theorem nwm_52 {U : State} (h : NW U) : va_Nw (.methodLinkNest "TaleBans" 149 ⟨"TaleBans$Seasons", "placeOf", "(I)I"⟩ "TaleBans") U := h _ (List.mem_of_getElem? (i := 52) rfl)
theorem nwm_53 {U : State} (h : NW U) : va_Nw (.methodLinkNest "TaleBans" 152 ⟨"TaleBans$Seasons", "taleAt", "(I)I"⟩ "TaleBans") U := h _ (List.mem_of_getElem? (i := 53) rfl)
theorem nwm_54 {U : State} (h : NW U) : va_Nw (.methodLinkNest "TaleBans" 155 ⟨"TaleBans$Seasons", "bannedDeeds", "()I"⟩ "TaleBans") U := h _ (List.mem_of_getElem? (i := 54) rfl)
theorem nwm_55 {U : State} (h : NW U) : va_Nw (.methodLinkNest "TaleBans" 240 ⟨"TaleBans$Seasons", "talesOfAll", "()I"⟩ "TaleBans") U := h _ (List.mem_of_getElem? (i := 55) rfl)
theorem nwm_56 {U : State} (h : NW U) : va_Nw (.methodLinkNest "TaleBans" 167 ⟨"TaleBans$Seasons", "isBanned", "(I)Z"⟩ "TaleBans") U := h _ (List.mem_of_getElem? (i := 56) rfl)
theorem nwm_57 {U : State} (h : NW U) : va_Nw (.methodLinkNest "TaleBans" 182 ⟨"TaleBans$Steppe", "firstUnmet", "(I)I"⟩ "TaleBans") U := h _ (List.mem_of_getElem? (i := 57) rfl)
theorem nwm_58 {U : State} (h : NW U) : va_Nw (.methodLinkNest "TaleBans$Steppe" 83 ⟨"TaleBans$Ledger", "at", "(II)I"⟩ "TaleBans") U := h _ (List.mem_of_getElem? (i := 58) rfl)
theorem nwm_59 {U : State} (h : NW U) : va_Nw (.methodLinkNest "TaleBans$Steppe" 85 ⟨"TaleBans", "isIn", "(II)Z"⟩ "TaleBans") U := h _ (List.mem_of_getElem? (i := 59) rfl)
theorem nwm_60 {U : State} (h : NW U) : va_Nw (.methodLinkNest "TaleBans" 185 ⟨"TaleBans$Sheet", "hasOnlyBelow", "(III)Z"⟩ "TaleBans") U := h _ (List.mem_of_getElem? (i := 60) rfl)
theorem nwm_61 {U : State} (h : NW U) : va_Nw (.methodLinkNest "TaleBans" 209 ⟨"TaleBans$Sheet", "at", "(I)I"⟩ "TaleBans") U := h _ (List.mem_of_getElem? (i := 61) rfl)
theorem nwm_62 {U : State} (h : NW U) : va_Nw (.methodLinkNest "TaleBans" 197 ⟨"TaleBans$Sheet", "renew", "(II)V"⟩ "TaleBans") U := h _ (List.mem_of_getElem? (i := 62) rfl)
theorem nwm_63 {U : State} (h : NW U) : va_Nw (.methodLinkNest "TaleBans" 200 ⟨"TaleBans$Sheet", "hasNothing", "()Z"⟩ "TaleBans") U := h _ (List.mem_of_getElem? (i := 63) rfl)
theorem nwm_64 {U : State} (h : NW U) : va_Nw (.methodLinkNest "TaleBans" 203 ⟨"TaleBans$Sheet", "clear", "()V"⟩ "TaleBans") U := h _ (List.mem_of_getElem? (i := 64) rfl)
theorem nwm_65 {U : State} (h : NW U) : va_Nw (.methodLinkNest "TaleBans" 206 ⟨"TaleBans$Sheet", "has", "(I)Z"⟩ "TaleBans") U := h _ (List.mem_of_getElem? (i := 65) rfl)
theorem nwm_66 {U : State} (h : NW U) : va_Nw (.methodLinkNest "TaleBans" 207 ⟨"TaleBans$Sheet", "set", "(II)V"⟩ "TaleBans") U := h _ (List.mem_of_getElem? (i := 66) rfl)
theorem nwm_67 {U : State} (h : NW U) : va_Nw (.methodLinkNest "TaleBans" 214 ⟨"TaleBans$Sheet", "reaches", "(II)Z"⟩ "TaleBans") U := h _ (List.mem_of_getElem? (i := 67) rfl)
theorem nwm_68 {U : State} (h : NW U) : va_Nw (.methodLinkNest "TaleBans$Bard" 11 ⟨"TaleBans$Trace", "leave", "(I)V"⟩ "TaleBans") U := h _ (List.mem_of_getElem? (i := 68) rfl)
theorem nwm_69 {U : State} (h : NW U) : va_Nw (.methodLinkNest "TaleBans$Granny" 11 ⟨"TaleBans$Trace", "leave", "(I)V"⟩ "TaleBans") U := h _ (List.mem_of_getElem? (i := 69) rfl)
theorem nwm_70 {U : State} (h : NW U) : va_Nw (.methodLinkNest "TaleBans$Herder" 23 ⟨"TaleBans$Trace", "leave", "(I)V"⟩ "TaleBans") U := h _ (List.mem_of_getElem? (i := 70) rfl)
theorem nw_0 {U : State} (h : NW U) {a : Array Value} : Cond.before (.fieldLinkNest "TaleBans" 234 "TaleBans$Trace" "number" "I" "TaleBans") a U = true := va_Nw.use rfl (h _ (List.mem_of_getElem? (i := 0) rfl))
theorem nw_1 {U : State} (h : NW U) {a : Array Value} : Cond.before (.fieldLinkNest "TaleBans$Seasons" 85 "TaleBans$Ledger" "count" "I" "TaleBans") a U = true := va_Nw.use rfl (h _ (List.mem_of_getElem? (i := 1) rfl))
theorem nw_2 {U : State} (h : NW U) {a : Array Value} : Cond.before (.fieldLinkNest "TaleBans$Steppe" 80 "TaleBans$Ledger" "count" "I" "TaleBans") a U = true := va_Nw.use rfl (h _ (List.mem_of_getElem? (i := 2) rfl))
theorem nw_3 {U : State} (h : NW U) {a : Array Value} : Cond.before (.fieldLinkNest "TaleBans" 237 "TaleBans$Ledger" "count" "I" "TaleBans") a U = true := va_Nw.use rfl (h _ (List.mem_of_getElem? (i := 3) rfl))
theorem nw_4 {U : State} (h : NW U) {a : Array Value} : Cond.before (.fieldLinkNest "TaleBans$Seasons" 81 "TaleBans$Steppe" "tales" "LTaleBans$Ledger;" "TaleBans") a U = true := va_Nw.use rfl (h _ (List.mem_of_getElem? (i := 4) rfl))
theorem nw_5 {U : State} (h : NW U) {a : Array Value} : Cond.before (.fieldLinkNest "TaleBans" 101 "TaleBans$Steppe" "tales" "LTaleBans$Ledger;" "TaleBans") a U = true := va_Nw.use rfl (h _ (List.mem_of_getElem? (i := 5) rfl))
theorem nw_6 {U : State} (h : NW U) {a : Array Value} : Cond.before (.fieldLinkNest "TaleBans$Seasons" 90 "TaleBans$Steppe" "moves" "LTaleBans$Ledger;" "TaleBans") a U = true := va_Nw.use rfl (h _ (List.mem_of_getElem? (i := 6) rfl))
theorem nw_7 {U : State} (h : NW U) {a : Array Value} : Cond.before (.fieldLinkNest "TaleBans" 121 "TaleBans$Steppe" "moves" "LTaleBans$Ledger;" "TaleBans") a U = true := va_Nw.use rfl (h _ (List.mem_of_getElem? (i := 7) rfl))
theorem nw_8 {U : State} (h : NW U) {a : Array Value} : Cond.before (.fieldLinkNest "TaleBans" 179 "TaleBans$Steppe" "needs" "LTaleBans$Ledger;" "TaleBans") a U = true := va_Nw.use rfl (h _ (List.mem_of_getElem? (i := 8) rfl))
theorem nw_9 {U : State} (h : NW U) {a : Array Value} : Cond.before (.fieldLinkNest "TaleBans" 114 "TaleBans$Steppe" "readings" "LTaleBans$Ledger;" "TaleBans") a U = true := va_Nw.use rfl (h _ (List.mem_of_getElem? (i := 9) rfl))
theorem nw_10 {U : State} (h : NW U) {a : Array Value} : Cond.before (.fieldLinkNest "TaleBans$Seasons" 44 "TaleBans$Steppe" "persons" "I" "TaleBans") a U = true := va_Nw.use rfl (h _ (List.mem_of_getElem? (i := 10) rfl))
theorem nw_11 {U : State} (h : NW U) {a : Array Value} : Cond.before (.fieldLinkNest "TaleBans" 69 "TaleBans$Steppe" "persons" "I" "TaleBans") a U = true := va_Nw.use rfl (h _ (List.mem_of_getElem? (i := 11) rfl))
theorem nw_12 {U : State} (h : NW U) {a : Array Value} : Cond.before (.fieldLinkNest "TaleBans" 91 "TaleBans$Steppe" "paid" "I" "TaleBans") a U = true := va_Nw.use rfl (h _ (List.mem_of_getElem? (i := 12) rfl))
theorem nw_13 {U : State} (h : NW U) {a : Array Value} : Cond.before (.fieldLinkNest "TaleBans" 128 "TaleBans$Steppe" "law" "I" "TaleBans") a U = true := va_Nw.use rfl (h _ (List.mem_of_getElem? (i := 13) rfl))
theorem nw_14 {U : State} (h : NW U) {a : Array Value} : Cond.before (.fieldLinkNest "TaleBans" 217 "TaleBans$Sheet" "cells" "[I" "TaleBans") a U = true := va_Nw.use rfl (h _ (List.mem_of_getElem? (i := 14) rfl))
theorem nw_15 {U : State} (h : NW U) {a : Array Value} : Cond.before (.fieldLinkNest "TaleBans" 211 "TaleBans$Sheet" "lane" "I" "TaleBans") a U = true := va_Nw.use rfl (h _ (List.mem_of_getElem? (i := 15) rfl))
theorem nw_16 {U : State} (h : NW U) {a : Array Value} : Cond.before (.fieldLinkNest "TaleBans" 82 "TaleBans$Herder" "minds" "I" "TaleBans") a U = true := va_Nw.use rfl (h _ (List.mem_of_getElem? (i := 16) rfl))
theorem nw_17 {U : State} (h : NW U) {a : Array Value} : Cond.before (.fieldLinkNest "TaleBans$Seasons" 53 "TaleBans$Herder" "home" "I" "TaleBans") a U = true := va_Nw.use rfl (h _ (List.mem_of_getElem? (i := 17) rfl))
theorem nw_18 {U : State} (h : NW U) {a : Array Value} : Cond.before (.fieldLinkNest "TaleBans" 85 "TaleBans$Herder" "home" "I" "TaleBans") a U = true := va_Nw.use rfl (h _ (List.mem_of_getElem? (i := 18) rfl))
theorem nw_19 {U : State} (h : NW U) {a : Array Value} : Cond.before (.methodLinkNest "TaleBans" 19 ⟨"TaleBans$Trace", "<init>", "()V"⟩ "TaleBans") a U = true := va_Nw.use rfl (h _ (List.mem_of_getElem? (i := 19) rfl))
theorem nw_20 {U : State} (h : NW U) {a : Array Value} : Cond.before (.methodLinkNest "TaleBans" 26 ⟨"TaleBans$Steppe", "<init>", "()V"⟩ "TaleBans") a U = true := va_Nw.use rfl (h _ (List.mem_of_getElem? (i := 20) rfl))
theorem nw_21 {U : State} (h : NW U) {a : Array Value} : Cond.before (.methodLinkNest "TaleBans$Steppe" 19 ⟨"TaleBans$Ledger", "<init>", "(I)V"⟩ "TaleBans") a U = true := va_Nw.use rfl (h _ (List.mem_of_getElem? (i := 21) rfl))
theorem nw_22 {U : State} (h : NW U) {a : Array Value} : Cond.before (.methodLinkNest "TaleBans" 33 ⟨"TaleBans$Seasons", "<init>", "(LTaleBans$Steppe;)V"⟩ "TaleBans") a U = true := va_Nw.use rfl (h _ (List.mem_of_getElem? (i := 22) rfl))
theorem nw_23 {U : State} (h : NW U) {a : Array Value} : Cond.before (.methodLinkNest "TaleBans" 40 ⟨"TaleBans$Sheet", "<init>", "()V"⟩ "TaleBans") a U = true := va_Nw.use rfl (h _ (List.mem_of_getElem? (i := 23) rfl))
theorem nw_24 {U : State} (h : NW U) {a : Array Value} : Cond.before (.methodLinkNest "TaleBans" 53 ⟨"TaleBans$Sheet", "faultOfTaking", "(III)I"⟩ "TaleBans") a U = true := va_Nw.use rfl (h _ (List.mem_of_getElem? (i := 24) rfl))
theorem nw_25 {U : State} (h : NW U) {a : Array Value} : Cond.before (.methodLinkNest "TaleBans" 61 ⟨"TaleBans$Steppe", "firstFault", "(LTaleBans$Sheet;II)I"⟩ "TaleBans") a U = true := va_Nw.use rfl (h _ (List.mem_of_getElem? (i := 25) rfl))
theorem nw_26 {U : State} (h : NW U) {a : Array Value} : Cond.before (.methodLinkNest "TaleBans$Steppe" 35 ⟨"TaleBans$Sheet", "at", "(I)I"⟩ "TaleBans") a U = true := va_Nw.use rfl (h _ (List.mem_of_getElem? (i := 26) rfl))
theorem nw_27 {U : State} (h : NW U) {a : Array Value} : Cond.before (.methodLinkNest "TaleBans$Sheet" 22 ⟨"TaleBans", "isOneOf", "(II)Z"⟩ "TaleBans") a U = true := va_Nw.use rfl (h _ (List.mem_of_getElem? (i := 27) rfl))
theorem nw_28 {U : State} (h : NW U) {a : Array Value} : Cond.before (.methodLinkNest "TaleBans" 65 ⟨"TaleBans$Steppe", "settle", "(LTaleBans$Sheet;II)V"⟩ "TaleBans") a U = true := va_Nw.use rfl (h _ (List.mem_of_getElem? (i := 28) rfl))
theorem nw_29 {U : State} (h : NW U) {a : Array Value} : Cond.before (.methodLinkNest "TaleBans$Steppe" 70 ⟨"TaleBans$Granny", "<init>", "(III)V"⟩ "TaleBans") a U = true := va_Nw.use rfl (h _ (List.mem_of_getElem? (i := 29) rfl))
theorem nw_30 {U : State} (h : NW U) {a : Array Value} : Cond.before (.methodLinkNest "TaleBans$Granny" 1 ⟨"TaleBans$Bard", "<init>", "(III)V"⟩ "TaleBans") a U = true := va_Nw.use rfl (h _ (List.mem_of_getElem? (i := 30) rfl))
theorem nw_31 {U : State} (h : NW U) {a : Array Value} : Cond.before (.methodLinkNest "TaleBans$Bard" 1 ⟨"TaleBans$Herder", "<init>", "(III)V"⟩ "TaleBans") a U = true := va_Nw.use rfl (h _ (List.mem_of_getElem? (i := 31) rfl))
theorem nw_32 {U : State} (h : NW U) {a : Array Value} : Cond.before (.methodLinkNest "TaleBans$Steppe" 75 ⟨"TaleBans$Bard", "<init>", "(III)V"⟩ "TaleBans") a U = true := va_Nw.use rfl (h _ (List.mem_of_getElem? (i := 32) rfl))
theorem nw_33 {U : State} (h : NW U) {a : Array Value} : Cond.before (.methodLinkNest "TaleBans$Steppe" 76 ⟨"TaleBans$Herder", "<init>", "(III)V"⟩ "TaleBans") a U = true := va_Nw.use rfl (h _ (List.mem_of_getElem? (i := 33) rfl))
theorem nw_34 {U : State} (h : NW U) {a : Array Value} : Cond.before (.methodLinkNest "TaleBans$Steppe" 59 ⟨"TaleBans$Ledger", "clear", "()V"⟩ "TaleBans") a U = true := va_Nw.use rfl (h _ (List.mem_of_getElem? (i := 34) rfl))
theorem nw_35 {U : State} (h : NW U) {a : Array Value} : Cond.before (.methodLinkNest "TaleBans" 72 ⟨"TaleBans$Steppe", "person", "(I)LTaleBans$Herder;"⟩ "TaleBans") a U = true := va_Nw.use rfl (h _ (List.mem_of_getElem? (i := 35) rfl))
theorem nw_36 {U : State} (h : NW U) {a : Array Value} : Cond.before (.methodLinkNest "TaleBans$Steppe" 77 ⟨"TaleBans", "isOneOf", "(II)Z"⟩ "TaleBans") a U = true := va_Nw.use rfl (h _ (List.mem_of_getElem? (i := 36) rfl))
theorem nw_37 {U : State} (h : NW U) {a : Array Value} : Cond.before (.methodLinkNest "TaleBans" 124 ⟨"TaleBans$Steppe", "isEmpty", "()Z"⟩ "TaleBans") a U = true := va_Nw.use rfl (h _ (List.mem_of_getElem? (i := 37) rfl))
theorem nw_38 {U : State} (h : NW U) {a : Array Value} : Cond.before (.methodLinkNest "TaleBans" 105 ⟨"TaleBans$Ledger", "add", "(IIII)I"⟩ "TaleBans") a U = true := va_Nw.use rfl (h _ (List.mem_of_getElem? (i := 38) rfl))
theorem nw_39 {U : State} (h : NW U) {a : Array Value} : Cond.before (.methodLinkNest "TaleBans$Ledger" 26 ⟨"TaleBans", "isOneOf", "(II)Z"⟩ "TaleBans") a U = true := va_Nw.use rfl (h _ (List.mem_of_getElem? (i := 39) rfl))
theorem nw_40 {U : State} (h : NW U) {a : Array Value} : Cond.before (.methodLinkNest "TaleBans" 111 ⟨"TaleBans$Ledger", "takeBack", "(I)I"⟩ "TaleBans") a U = true := va_Nw.use rfl (h _ (List.mem_of_getElem? (i := 40) rfl))
theorem nw_41 {U : State} (h : NW U) {a : Array Value} : Cond.before (.methodLinkNest "TaleBans" 117 ⟨"TaleBans$Ledger", "keepBelow", "(II)V"⟩ "TaleBans") a U = true := va_Nw.use rfl (h _ (List.mem_of_getElem? (i := 41) rfl))
theorem nw_42 {U : State} (h : NW U) {a : Array Value} : Cond.before (.methodLinkNest "TaleBans" 131 ⟨"TaleBans$Ledger", "has", "(I)Z"⟩ "TaleBans") a U = true := va_Nw.use rfl (h _ (List.mem_of_getElem? (i := 42) rfl))
theorem nw_43 {U : State} (h : NW U) {a : Array Value} : Cond.before (.methodLinkNest "TaleBans" 135 ⟨"TaleBans$Ledger", "at", "(II)I"⟩ "TaleBans") a U = true := va_Nw.use rfl (h _ (List.mem_of_getElem? (i := 43) rfl))
theorem nw_44 {U : State} (h : NW U) {a : Array Value} : Cond.before (.methodLinkNest "TaleBans" 139 ⟨"TaleBans$Ledger", "set", "(III)V"⟩ "TaleBans") a U = true := va_Nw.use rfl (h _ (List.mem_of_getElem? (i := 44) rfl))
theorem nw_45 {U : State} (h : NW U) {a : Array Value} : Cond.before (.methodLinkNest "TaleBans" 161 ⟨"TaleBans$Seasons", "begin", "(II)V"⟩ "TaleBans") a U = true := va_Nw.use rfl (h _ (List.mem_of_getElem? (i := 45) rfl))
theorem nw_46 {U : State} (h : NW U) {a : Array Value} : Cond.before (.methodLinkNest "TaleBans$Seasons" 49 ⟨"TaleBans$Steppe", "person", "(I)LTaleBans$Herder;"⟩ "TaleBans") a U = true := va_Nw.use rfl (h _ (List.mem_of_getElem? (i := 46) rfl))
theorem nw_47 {U : State} (h : NW U) {a : Array Value} : Cond.before (.methodLinkNest "TaleBans" 164 ⟨"TaleBans$Seasons", "pass", "()V"⟩ "TaleBans") a U = true := va_Nw.use rfl (h _ (List.mem_of_getElem? (i := 47) rfl))
theorem nw_48 {U : State} (h : NW U) {a : Array Value} : Cond.before (.methodLinkNest "TaleBans$Seasons" 93 ⟨"TaleBans$Ledger", "at", "(II)I"⟩ "TaleBans") a U = true := va_Nw.use rfl (h _ (List.mem_of_getElem? (i := 48) rfl))
theorem nw_49 {U : State} (h : NW U) {a : Array Value} : Cond.before (.methodLinkNest "TaleBans$Seasons" 97 ⟨"TaleBans", "isOneOf", "(II)Z"⟩ "TaleBans") a U = true := va_Nw.use rfl (h _ (List.mem_of_getElem? (i := 49) rfl))
theorem nw_50 {U : State} (h : NW U) {a : Array Value} : Cond.before (.methodLinkNest "TaleBans$Seasons" 112 ⟨"TaleBans", "isIn", "(II)Z"⟩ "TaleBans") a U = true := va_Nw.use rfl (h _ (List.mem_of_getElem? (i := 50) rfl))
theorem nw_51 {U : State} (h : NW U) {a : Array Value} : Cond.before (.methodLinkNest "TaleBans" 146 ⟨"TaleBans$Seasons", "talesOf", "(I)I"⟩ "TaleBans") a U = true := va_Nw.use rfl (h _ (List.mem_of_getElem? (i := 51) rfl))
theorem nw_52 {U : State} (h : NW U) {a : Array Value} : Cond.before (.methodLinkNest "TaleBans" 149 ⟨"TaleBans$Seasons", "placeOf", "(I)I"⟩ "TaleBans") a U = true := va_Nw.use rfl (h _ (List.mem_of_getElem? (i := 52) rfl))
theorem nw_53 {U : State} (h : NW U) {a : Array Value} : Cond.before (.methodLinkNest "TaleBans" 152 ⟨"TaleBans$Seasons", "taleAt", "(I)I"⟩ "TaleBans") a U = true := va_Nw.use rfl (h _ (List.mem_of_getElem? (i := 53) rfl))
theorem nw_54 {U : State} (h : NW U) {a : Array Value} : Cond.before (.methodLinkNest "TaleBans" 155 ⟨"TaleBans$Seasons", "bannedDeeds", "()I"⟩ "TaleBans") a U = true := va_Nw.use rfl (h _ (List.mem_of_getElem? (i := 54) rfl))
theorem nw_55 {U : State} (h : NW U) {a : Array Value} : Cond.before (.methodLinkNest "TaleBans" 240 ⟨"TaleBans$Seasons", "talesOfAll", "()I"⟩ "TaleBans") a U = true := va_Nw.use rfl (h _ (List.mem_of_getElem? (i := 55) rfl))
theorem nw_56 {U : State} (h : NW U) {a : Array Value} : Cond.before (.methodLinkNest "TaleBans" 167 ⟨"TaleBans$Seasons", "isBanned", "(I)Z"⟩ "TaleBans") a U = true := va_Nw.use rfl (h _ (List.mem_of_getElem? (i := 56) rfl))
theorem nw_57 {U : State} (h : NW U) {a : Array Value} : Cond.before (.methodLinkNest "TaleBans" 182 ⟨"TaleBans$Steppe", "firstUnmet", "(I)I"⟩ "TaleBans") a U = true := va_Nw.use rfl (h _ (List.mem_of_getElem? (i := 57) rfl))
theorem nw_58 {U : State} (h : NW U) {a : Array Value} : Cond.before (.methodLinkNest "TaleBans$Steppe" 83 ⟨"TaleBans$Ledger", "at", "(II)I"⟩ "TaleBans") a U = true := va_Nw.use rfl (h _ (List.mem_of_getElem? (i := 58) rfl))
theorem nw_59 {U : State} (h : NW U) {a : Array Value} : Cond.before (.methodLinkNest "TaleBans$Steppe" 85 ⟨"TaleBans", "isIn", "(II)Z"⟩ "TaleBans") a U = true := va_Nw.use rfl (h _ (List.mem_of_getElem? (i := 59) rfl))
theorem nw_60 {U : State} (h : NW U) {a : Array Value} : Cond.before (.methodLinkNest "TaleBans" 185 ⟨"TaleBans$Sheet", "hasOnlyBelow", "(III)Z"⟩ "TaleBans") a U = true := va_Nw.use rfl (h _ (List.mem_of_getElem? (i := 60) rfl))
theorem nw_61 {U : State} (h : NW U) {a : Array Value} : Cond.before (.methodLinkNest "TaleBans" 209 ⟨"TaleBans$Sheet", "at", "(I)I"⟩ "TaleBans") a U = true := va_Nw.use rfl (h _ (List.mem_of_getElem? (i := 61) rfl))
theorem nw_62 {U : State} (h : NW U) {a : Array Value} : Cond.before (.methodLinkNest "TaleBans" 197 ⟨"TaleBans$Sheet", "renew", "(II)V"⟩ "TaleBans") a U = true := va_Nw.use rfl (h _ (List.mem_of_getElem? (i := 62) rfl))
theorem nw_63 {U : State} (h : NW U) {a : Array Value} : Cond.before (.methodLinkNest "TaleBans" 200 ⟨"TaleBans$Sheet", "hasNothing", "()Z"⟩ "TaleBans") a U = true := va_Nw.use rfl (h _ (List.mem_of_getElem? (i := 63) rfl))
theorem nw_64 {U : State} (h : NW U) {a : Array Value} : Cond.before (.methodLinkNest "TaleBans" 203 ⟨"TaleBans$Sheet", "clear", "()V"⟩ "TaleBans") a U = true := va_Nw.use rfl (h _ (List.mem_of_getElem? (i := 64) rfl))
theorem nw_65 {U : State} (h : NW U) {a : Array Value} : Cond.before (.methodLinkNest "TaleBans" 206 ⟨"TaleBans$Sheet", "has", "(I)Z"⟩ "TaleBans") a U = true := va_Nw.use rfl (h _ (List.mem_of_getElem? (i := 65) rfl))
theorem nw_66 {U : State} (h : NW U) {a : Array Value} : Cond.before (.methodLinkNest "TaleBans" 207 ⟨"TaleBans$Sheet", "set", "(II)V"⟩ "TaleBans") a U = true := va_Nw.use rfl (h _ (List.mem_of_getElem? (i := 66) rfl))
theorem nw_67 {U : State} (h : NW U) {a : Array Value} : Cond.before (.methodLinkNest "TaleBans" 214 ⟨"TaleBans$Sheet", "reaches", "(II)Z"⟩ "TaleBans") a U = true := va_Nw.use rfl (h _ (List.mem_of_getElem? (i := 67) rfl))
theorem nw_68 {U : State} (h : NW U) {a : Array Value} : Cond.before (.methodLinkNest "TaleBans$Bard" 11 ⟨"TaleBans$Trace", "leave", "(I)V"⟩ "TaleBans") a U = true := va_Nw.use rfl (h _ (List.mem_of_getElem? (i := 68) rfl))
theorem nw_69 {U : State} (h : NW U) {a : Array Value} : Cond.before (.methodLinkNest "TaleBans$Granny" 11 ⟨"TaleBans$Trace", "leave", "(I)V"⟩ "TaleBans") a U = true := va_Nw.use rfl (h _ (List.mem_of_getElem? (i := 69) rfl))
theorem nw_70 {U : State} (h : NW U) {a : Array Value} : Cond.before (.methodLinkNest "TaleBans$Herder" 23 ⟨"TaleBans$Trace", "leave", "(I)V"⟩ "TaleBans") a U = true := va_Nw.use rfl (h _ (List.mem_of_getElem? (i := 70) rfl))
/-- what holds at a start: the world of the class -/
def WdC (D : va_G) (cy : Nat → ClassId) (ad : Nat → Nat) (A : Nat → Prop) (σ : S_) (U : State) : Prop := va_P D vwCl (wC cy ad σ) U.heap ∧ va_K D vwCl (tysK cy) U ∧ va_D A (wC cy ad σ) ∧ NW U
def WtC (D : va_G) (cy : Nat → ClassId) (ad : Nat → Nat) (A : Nat → Prop) (σ : S_) (t : State) : Prop := va_P D vwCl (wC cy ad σ) t.heap ∧ va_D A (wC cy ad σ)
theorem WdC.blind {D : va_G} {cy : Nat → ClassId} {ad : Nat → Nat} {A : Nat → Prop} {σ : S_} {U : State} {a : Array Value} {g : JFrame} {mk : MethodId} (h : WdC D cy ad A σ U) : WdC D cy ad A σ (U.calling g mk a) := ⟨h.1, va_K.moved (u := U) (U := U.calling g mk a) (Vm.Alike.refl U.vm) h.2.1, h.2.2.1, NW.same (u := U) (U := U.calling g mk a) rfl h.2.2.2⟩
theorem WdC.pre {D : va_G} {cy : Nat → ClassId} {ad : Nat → Nat} {A : Nat → Prop} {σ : S_} {s U : State} {H : Heap} (hP : va_P D vwCl (wC cy ad σ) H) (hK : va_K D vwCl (tysK cy) s) (hD : va_D A (wC cy ad σ)) (hN : NW s) (hU : U.heap = H) (hW : s.WarmedH U.vm) : WdC D cy ad A σ U := ⟨by rw [hU]; exact hP, va_K.moved hW.alike hK, hD, hN.warm hW⟩
/-- what holds at a start: the world of the reference -/
def WdR (D : va_G) (cy : Nat → ClassId) (ad : Nat → Nat) (A : Nat → Prop) (σ : S_) (U : State) : Prop := va_P D vwCl (wR cy ad σ) U.heap ∧ va_K D vwCl (tysK cy) U ∧ va_D A (wR cy ad σ) ∧ NW U
def WtR (D : va_G) (cy : Nat → ClassId) (ad : Nat → Nat) (A : Nat → Prop) (σ : S_) (t : State) : Prop := va_P D vwCl (wR cy ad σ) t.heap ∧ va_D A (wR cy ad σ)
theorem WdR.blind {D : va_G} {cy : Nat → ClassId} {ad : Nat → Nat} {A : Nat → Prop} {σ : S_} {U : State} {a : Array Value} {g : JFrame} {mk : MethodId} (h : WdR D cy ad A σ U) : WdR D cy ad A σ (U.calling g mk a) := ⟨h.1, va_K.moved (u := U) (U := U.calling g mk a) (Vm.Alike.refl U.vm) h.2.1, h.2.2.1, NW.same (u := U) (U := U.calling g mk a) rfl h.2.2.2⟩
theorem WdR.pre {D : va_G} {cy : Nat → ClassId} {ad : Nat → Nat} {A : Nat → Prop} {σ : S_} {s U : State} {H : Heap} (hP : va_P D vwCl (wR cy ad σ) H) (hK : va_K D vwCl (tysK cy) s) (hD : va_D A (wR cy ad σ)) (hN : NW s) (hU : U.heap = H) (hW : s.WarmedH U.vm) : WdR D cy ad A σ U := ⟨by rw [hU]; exact hP, va_K.moved hW.alike hK, hD, hN.warm hW⟩
theorem va_P.kept0 {D : va_G} {cl : List vw_C} {ws : va_W} {H H1 : Heap} (h : va_P D cl ws H) (hk : ∀ q : Nat, q < H.size → ¬ False → H1[q]? = H[q]?) : va_P D cl ws H1 := h.kept (fun k q hq => hk q.1 (h k q hq).lt (fun z => z))
theorem nar_b {e : Int32} (h : e = 0 ∨ e = 1) : narrow .boolean (.int e) = .int e := by
  rcases h with rfl | rfl <;> rfl
theorem b2i_01 (c : Prop) [Decidable c] : b2i c = 0 ∨ b2i c = 1 := by
  unfold b2i; split
  · exact Or.inr rfl
  · exact Or.inl rfl
def isC (c : Nat) : Prop := c = 0 ∨ c = 1 ∨ c = 2
theorem wC_hc (cy : Nat → ClassId) (ad : Nat → Nat) (σ : S_) {q ci : Nat} (hq : q < nH σ) (hc : (hget σ q).2.1 = ci) : (wC cy ad σ)[28 + q]? = some ((hget σ q).1, .inr (ci, [.int (hget σ q).2.2.1, .int (hget σ q).2.2.2.1, .int (hget σ q).2.2.2.2])) := by
  rw [← hc]; exact wC_h cy ad σ hq
theorem wC_hd (cy : Nat → ClassId) (ad : Nat → Nat) {σ σ' : S_} {q ci : Nat} (he : hget σ' q = hget σ q) (hq : q < nH σ') (hc : (hget σ q).2.1 = ci) : (wC cy ad σ')[28 + q]? = some ((hget σ q).1, .inr (ci, [.int (hget σ q).2.2.1, .int (hget σ q).2.2.2.1, .int (hget σ q).2.2.2.2])) := by
  rw [← hc, ← he]; exact wC_h cy ad σ' hq
theorem P_of {D : va_G} {cl : List vw_C} {ws : va_W} {t : State} {H : Heap} (ht : t.heap = H) (hP : va_P D cl ws H) : va_P D cl ws t.heap := by rw [ht]; exact hP
theorem le_R {a b n : Nat} (h : a = n) (hb : b ≤ n) : b ≤ a := by rw [h]; exact hb
theorem sw_k {x k : Int32} {n : Int} (h : x.toInt = n) (hk : k.toInt = n) : x = k := Int32.toInt_inj.mp (h.trans hk.symm)
theorem sw_out {lo hi : Int} (x : Int32) (h : ∀ k : Int, lo ≤ k → k ≤ hi → x.toInt = k → False) : x.toInt < lo ∨ hi < x.toInt := by
  rcases Int.lt_or_le x.toInt lo with h1 | h1
  · exact Or.inl h1
  · rcases Int.lt_or_le hi x.toInt with h2 | h2
    · exact Or.inr h2
    · exact (h _ h1 h2 rfl).elim
section KW
variable {p : Program} {l : Launch} {e : Env} {R : Room} {s : State} {m : MethodId} {args : Array Value} {below : List Frame} {meth : Method} {c : Code} {H : Heap} {locs : List Loc} {cells slots : Nat} {Q : State → Prop} {pc : Nat} {ls : Array Slot} {rest st0 : List Value} {a : Array Value} {A : Nat → Prop} {H0 : Heap} {D : va_G} {cl : List vw_C} {ws : va_W}
theorem W_gen {g : JFrame} (h : ∀ (R' : Room) (Q' : State → Prop) (H' : Heap) (locs' : List Loc), R' = R → Q' = Q → H' = H → locs' = locs → W p l e R' s m args below meth c H' locs' cells slots Q' g) : W p l e R s m args below meth c H locs cells slots Q g := h _ _ _ _ rfl rfl rfl rfl
theorem W_top {v v' : Value} (h : v = v') (k : W p l e R s m args below meth c H locs cells slots Q (F0 m pc ls (v' :: rest))) : W p l e R s m args below meth c H locs cells slots Q (F0 m pc ls (v :: rest)) := by rw [h]; exact k
theorem k_pure_i {post : Int32 → Prop} (hr : va_Run p l e R s m args below meth c H locs cells slots 0 0 (F0 m pc ls st0) rest (va_Qi (S := Unit) (fun r _ => post r) (fun _ _ => True) (fun _ => False) a) (fun _ => False)) (hS : va_S A H0 H locs) (hP : va_P D cl ws H) (kk : ∀ (r : Int32) (H1 : Heap) (locs1 : List Loc), post r → va_P D cl ws H1 → va_S A H0 H1 locs1 → W p l e R s m args below meth c H1 locs1 cells slots Q (F0 m (pc + 3) ls (.int r :: rest))) : W p l e R s m args below meth c H locs cells slots Q (F0 m pc ls st0) := va_calli hr hS (fun q _ h => h.elim) (fun q h => h.elim) (fun r u t H1 locs1 ht hvm hw hB hz hk hS1 => kk r H1 locs1 hw (hP.kept0 hk) hS1)
theorem k_pure_l {post : Int64 → Prop} (hr : va_Run p l e R s m args below meth c H locs cells slots 0 0 (F0 m pc ls st0) rest (va_Ql (S := Unit) (fun r _ => post r) (fun _ _ => True) (fun _ => False) a) (fun _ => False)) (hS : va_S A H0 H locs) (hP : va_P D cl ws H) (kk : ∀ (r : Int64) (H1 : Heap) (locs1 : List Loc), post r → va_P D cl ws H1 → va_S A H0 H1 locs1 → W p l e R s m args below meth c H1 locs1 cells slots Q (F0 m (pc + 3) ls (.long r :: rest))) : W p l e R s m args below meth c H locs cells slots Q (F0 m pc ls st0) := va_calll hr hS (fun q _ h => h.elim) (fun q h => h.elim) (fun r u t H1 locs1 ht hvm hw hB hz hk hS1 => kk r H1 locs1 hw (hP.kept0 hk) hS1)
theorem k_pure0_i {post : Int32 → Prop} (hr : va_Run p l e R s m args below meth c H locs cells slots 0 0 (F0 m pc ls st0) rest (va_Qi (S := Unit) (fun r _ => post r) (fun _ _ => True) (fun _ => False) a) (fun _ => False)) (hS : va_S A H0 H locs) (kk : ∀ (r : Int32) (H1 : Heap) (locs1 : List Loc), post r → va_S A H0 H1 locs1 → W p l e R s m args below meth c H1 locs1 cells slots Q (F0 m (pc + 3) ls (.int r :: rest))) : W p l e R s m args below meth c H locs cells slots Q (F0 m pc ls st0) := va_calli hr hS (fun q _ h => h.elim) (fun q h => h.elim) (fun r u t H1 locs1 ht hvm hw hB hz hk hS1 => kk r H1 locs1 hw hS1)
theorem k_pure0_l {post : Int64 → Prop} (hr : va_Run p l e R s m args below meth c H locs cells slots 0 0 (F0 m pc ls st0) rest (va_Ql (S := Unit) (fun r _ => post r) (fun _ _ => True) (fun _ => False) a) (fun _ => False)) (hS : va_S A H0 H locs) (kk : ∀ (r : Int64) (H1 : Heap) (locs1 : List Loc), post r → va_S A H0 H1 locs1 → W p l e R s m args below meth c H1 locs1 cells slots Q (F0 m (pc + 3) ls (.long r :: rest))) : W p l e R s m args below meth c H locs cells slots Q (F0 m pc ls st0) := va_calll hr hS (fun q _ h => h.elim) (fun q h => h.elim) (fun r u t H1 locs1 ht hvm hw hB hz hk hS1 => kk r H1 locs1 hw hS1)
theorem k_read_i {post : Int32 → Prop} {w : S_ → va_W} {σ : S_} (hr : va_Run p l e R s m args below meth c H locs cells slots 0 0 (F0 m pc ls st0) rest (va_Qi (S := Unit) (fun r _ => post r) (fun _ t => va_P D cl (w σ) t.heap) A a) A) (hS : va_S A H0 H locs) (kk : ∀ (r : Int32) (H1 : Heap) (locs1 : List Loc), post r → va_P D cl (w σ) H1 → va_S A H0 H1 locs1 → W p l e R s m args below meth c H1 locs1 cells slots Q (F0 m (pc + 3) ls (.int r :: rest))) : W p l e R s m args below meth c H locs cells slots Q (F0 m pc ls st0) := va_calli hr hS (fun q _ h => h) (fun q h => h) (fun r u t H1 locs1 ht hvm hw hB hz hk hS1 => kk r H1 locs1 hw (ht ▸ hB) hS1)
theorem k_read_l {post : Int64 → Prop} {w : S_ → va_W} {σ : S_} (hr : va_Run p l e R s m args below meth c H locs cells slots 0 0 (F0 m pc ls st0) rest (va_Ql (S := Unit) (fun r _ => post r) (fun _ t => va_P D cl (w σ) t.heap) A a) A) (hS : va_S A H0 H locs) (kk : ∀ (r : Int64) (H1 : Heap) (locs1 : List Loc), post r → va_P D cl (w σ) H1 → va_S A H0 H1 locs1 → W p l e R s m args below meth c H1 locs1 cells slots Q (F0 m (pc + 3) ls (.long r :: rest))) : W p l e R s m args below meth c H locs cells slots Q (F0 m pc ls st0) := va_calll hr hS (fun q _ h => h) (fun q h => h) (fun r u t H1 locs1 ht hvm hw hB hz hk hS1 => kk r H1 locs1 hw (ht ▸ hB) hS1)
theorem k_read_e {ad : Nat → Nat} {post : Option Nat → Prop} {w : S_ → va_W} {σ : S_} (hr : va_Run p l e R s m args below meth c H locs cells slots 0 0 (F0 m pc ls st0) rest (va_Qe (S := Unit) ad (fun r _ => post r) (fun _ t => va_P D cl (w σ) t.heap) A a) A) (hS : va_S A H0 H locs) (kk : ∀ (r : Option Nat) (H1 : Heap) (locs1 : List Loc), post r → va_P D cl (w σ) H1 → va_S A H0 H1 locs1 → W p l e R s m args below meth c H1 locs1 cells slots Q (F0 m (pc + 3) ls (va_re ad r :: rest))) : W p l e R s m args below meth c H locs cells slots Q (F0 m pc ls st0) := va_calle hr hS (fun q _ h => h) (fun q h => h) (fun r u t H1 locs1 ht hvm hw hB hz hk hS1 => kk r H1 locs1 hw (ht ▸ hB) hS1)
theorem k_rel_i {post : Int32 → S_ → Prop} {w : S_ → va_W} (hr : va_Run p l e R s m args below meth c H locs cells slots 0 0 (F0 m pc ls st0) rest (va_Qi post (fun u t => va_P D cl (w u) t.heap ∧ va_D A (w u)) A a) A) (hS : va_S A H0 H locs) (kk : ∀ (r : Int32) (u : S_) (H1 : Heap) (locs1 : List Loc), post r u → va_P D cl (w u) H1 → va_D A (w u) → va_S A H0 H1 locs1 → W p l e R s m args below meth c H1 locs1 cells slots Q (F0 m (pc + 3) ls (.int r :: rest))) : W p l e R s m args below meth c H locs cells slots Q (F0 m pc ls st0) := va_calli hr hS (fun q _ h => h) (fun q h => h) (fun r u t H1 locs1 ht hvm hw hB hz hk hS1 => kk r u H1 locs1 hw (ht ▸ hB.1) hB.2 hS1)
theorem k_rel_l {post : Int64 → S_ → Prop} {w : S_ → va_W} (hr : va_Run p l e R s m args below meth c H locs cells slots 0 0 (F0 m pc ls st0) rest (va_Ql post (fun u t => va_P D cl (w u) t.heap ∧ va_D A (w u)) A a) A) (hS : va_S A H0 H locs) (kk : ∀ (r : Int64) (u : S_) (H1 : Heap) (locs1 : List Loc), post r u → va_P D cl (w u) H1 → va_D A (w u) → va_S A H0 H1 locs1 → W p l e R s m args below meth c H1 locs1 cells slots Q (F0 m (pc + 3) ls (.long r :: rest))) : W p l e R s m args below meth c H locs cells slots Q (F0 m pc ls st0) := va_calll hr hS (fun q _ h => h) (fun q h => h) (fun r u t H1 locs1 ht hvm hw hB hz hk hS1 => kk r u H1 locs1 hw (ht ▸ hB.1) hB.2 hS1)
theorem k_rel_v {post : S_ → Prop} {w : S_ → va_W} (hr : va_Run p l e R s m args below meth c H locs cells slots 0 0 (F0 m pc ls st0) rest (va_Qv post (fun u t => va_P D cl (w u) t.heap ∧ va_D A (w u)) A a) A) (hS : va_S A H0 H locs) (kk : ∀ (u : S_) (H1 : Heap) (locs1 : List Loc), post u → va_P D cl (w u) H1 → va_D A (w u) → va_S A H0 H1 locs1 → W p l e R s m args below meth c H1 locs1 cells slots Q (F0 m (pc + 3) ls rest)) : W p l e R s m args below meth c H locs cells slots Q (F0 m pc ls st0) := va_callv hr hS (fun q _ h => h) (fun q h => h) (fun u t H1 locs1 ht hvm hw hB hz hk hS1 => kk u H1 locs1 hw (ht ▸ hB.1) hB.2 hS1)
end KW
