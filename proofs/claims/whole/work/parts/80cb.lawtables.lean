/-! what the tables give at the start -/
set_option maxRecDepth 100000 in
theorem nwL_in : ∀ w ∈ nwL, w ∈ tables_1 := mem_r [32, 53, 54, 55, 66, 67, 69, 70, 72, 74, 75, 76, 78, 81, 142, 144, 235, 237, 238, 27, 38, 46, 101, 137, 180, 196, 199, 207, 211, 223, 226, 229, 248, 254, 259, 267, 271, 307, 311, 323, 328, 332, 363, 364, 365, 374, 378, 383, 395, 396, 417, 422, 430, 438, 446, 466, 471, 502, 506, 507, 512, 521, 559, 569, 570, 578, 579, 595, 608, 616, 624] rfl
theorem nwL_tab : ∀ w ∈ nwL, w.onTables = true := List.all_eq_true.mp (by decide +kernel)
theorem tb_in {w : Cond} (h : w ∈ tables_1) : w ∈ lw_tbl := List.mem_append_right _ h
set_option maxRecDepth 100000 in
theorem tb_cb : (.castable "TaleBans$Bard" "TaleBans$Herder" : Cond) ∈ tables_1 := List.mem_of_getElem? (i := 1076) rfl
set_option maxRecDepth 100000 in
theorem tb_cg : (.castable "TaleBans$Granny" "TaleBans$Herder" : Cond) ∈ tables_1 := List.mem_of_getElem? (i := 1075) rfl
set_option maxRecDepth 100000 in
theorem tb_as : (.arrayOver (.object "TaleBans$Sheet") : Cond) ∈ tables_1 := List.mem_of_getElem? (i := 24) rfl
set_option maxRecDepth 100000 in
theorem tb_ah : (.arrayOver (.object "TaleBans$Herder") : Cond) ∈ tables_1 := List.mem_of_getElem? (i := 43) rfl
set_option maxRecDepth 100000 in
theorem tb_ai : (.arrayClass .int : Cond) ∈ tables_1 := List.mem_of_getElem? (i := 63) rfl
set_option maxRecDepth 100000 in
theorem tb_az : (.arrayClass .boolean : Cond) ∈ tables_1 := List.mem_of_getElem? (i := 777) rfl
set_option maxRecDepth 100000 in
theorem tb_i0 : (.instantiable RX0 3 : Cond) ∈ tables_1 := List.mem_of_getElem? (i := 247) rfl
set_option maxRecDepth 100000 in
theorem tb_i1 : (.instantiable RX1 3 : Cond) ∈ tables_1 := List.mem_of_getElem? (i := 222) rfl
set_option maxRecDepth 100000 in
theorem tb_i2 : (.instantiable RX2 3 : Cond) ∈ tables_1 := List.mem_of_getElem? (i := 253) rfl
set_option maxRecDepth 100000 in
theorem tb_i3 : (.instantiable RX3 3 : Cond) ∈ tables_1 := List.mem_of_getElem? (i := 45) rfl
set_option maxRecDepth 100000 in
theorem tb_i4 : (.instantiable RX4 10 : Cond) ∈ tables_1 := List.mem_of_getElem? (i := 100) rfl
set_option maxRecDepth 100000 in
theorem tb_i5 : (.instantiable RX5 3 : Cond) ∈ tables_1 := List.mem_of_getElem? (i := 136) rfl
set_option maxRecDepth 100000 in
theorem tb_i6 : (.instantiable RX6 8 : Cond) ∈ tables_1 := List.mem_of_getElem? (i := 37) rfl
set_option maxRecDepth 100000 in
theorem tb_i7 : (.instantiable RX7 1 : Cond) ∈ tables_1 := List.mem_of_getElem? (i := 26) rfl
set_option maxRecDepth 100000 in
theorem tb_i8 : (.instantiable RX8 5 : Cond) ∈ tables_1 := List.mem_of_getElem? (i := 16) rfl
set_option maxRecDepth 100000 in
theorem tb_i9 : (.instantiable RX9 38 : Cond) ∈ tables_1 := List.mem_of_getElem? (i := 657) rfl
theorem K_start {s : State} {args : Array Value} (hts : ∀ w ∈ lw_tbl, w.before args s = true) : ∃ (D : va_G) (cy : Nat → ClassId), va_K D vwCl (tysK cy) s ∧ NW s ∧ CA2 s ∧ AO2 s := by
  obtain ⟨c0, i0, k0⟩ := u_known (C := RX0) (T := TX0) (N := 3) (n := 3) hts inX0 (hts _ (tb_in tb_i0))
  obtain ⟨c1, i1, k1⟩ := u_known (C := RX1) (T := TX1) (N := 3) (n := 3) hts inX1 (hts _ (tb_in tb_i1))
  obtain ⟨c2, i2, k2⟩ := u_known (C := RX2) (T := TX2) (N := 3) (n := 3) hts inX2 (hts _ (tb_in tb_i2))
  obtain ⟨c3, i3, k3⟩ := u_known (C := RX3) (T := TX3) (N := 3) (n := 3) hts inX3 (hts _ (tb_in tb_i3))
  obtain ⟨c4, i4, k4⟩ := u_known (C := RX4) (T := TX4) (N := 10) (n := 10) hts inX4 (hts _ (tb_in tb_i4))
  obtain ⟨c5, i5, k5⟩ := u_known (C := RX5) (T := TX5) (N := 3) (n := 3) hts inX5 (hts _ (tb_in tb_i5))
  obtain ⟨c6, i6, k6⟩ := u_known (C := RX6) (T := TX6) (N := 8) (n := 8) hts inX6 (hts _ (tb_in tb_i6))
  obtain ⟨c7, i7, k7⟩ := u_known (C := RX7) (T := TX7) (N := 1) (n := 1) hts inX7 (hts _ (tb_in tb_i7))
  obtain ⟨c8, i8, k8⟩ := u_known (C := RX8) (T := TX8) (N := 5) (n := 5) hts inX8 (hts _ (tb_in tb_i8))
  obtain ⟨c9, i9, k9⟩ := u_known (C := RX9) (T := TX9) (N := 38) (n := 38) hts inX9 (hts _ (tb_in tb_i9))
  obtain ⟨ai, ka, comp, h1, h2, h3⟩ := Cond.arrayClass_spec (hts _ (tb_in tb_ai))
  obtain ⟨az, kz, compz, z1, z2, z3⟩ := Cond.arrayClass_spec (hts _ (tb_in tb_az))
  obtain ⟨cs, as_, ks, s1, -, s3, s4, s5⟩ := Cond.arrayOver_spec (hts _ (tb_in tb_as))
  obtain ⟨ch, ah, kh, g1, -, g3, g4, g5⟩ := Cond.arrayOver_spec (hts _ (tb_in tb_ah))
  refine ⟨(fun k => match k with
    | 0 => c0
    | 1 => c1
    | 2 => c2
    | 3 => c3
    | 4 => c4
    | 5 => c5
    | 6 => c6
    | 7 => c7
    | 8 => c8
    | _ => c9, fun k => match k with
    | 0 => i0
    | 1 => i1
    | 2 => i2
    | 3 => i3
    | 4 => i4
    | 5 => i5
    | 6 => i6
    | 7 => i7
    | 8 => i8
    | _ => i9), fun k => match k with
    | 0 => ai
    | 1 => az
    | 2 => as_
    | _ => ah, ⟨?_, ?_⟩, fun w hw => va_Nw.of (nwL_tab w hw) (hts w (tb_in (nwL_in w hw))), ⟨va_Nw.of rfl (hts _ (tb_in tb_cb)), va_Nw.of rfl (hts _ (tb_in tb_cg))⟩, ⟨va_AO.of (hts _ (tb_in tb_as)), va_AO.of (hts _ (tb_in tb_ah))⟩⟩
  · intro k q hq
    match k, hq with
    | 0, hq => cases hq; exact k0
    | 1, hq => cases hq; exact k1
    | 2, hq => cases hq; exact k2
    | 3, hq => cases hq; exact k3
    | 4, hq => cases hq; exact k4
    | 5, hq => cases hq; exact k5
    | 6, hq => cases hq; exact k6
    | 7, hq => cases hq; exact k7
    | 8, hq => cases hq; exact k8
    | 9, hq => cases hq; exact k9
    | k + 10, hq => simp [vwCl] at hq
  · intro k q hq
    match k, hq with
    | 0, hq => cases hq; exact ⟨fun n z => ⟨fun k h => (by cases h), ka, h2, comp, h3⟩, h1⟩
    | 1, hq => cases hq; exact ⟨fun n z => ⟨fun k h => (by cases h), kz, z2, compz, z3⟩, z1⟩
    | 2, hq => cases hq; exact ⟨fun n z => ⟨fun k h => (by cases h), ks, s3, cs, s4⟩, ks, cs, s3, s4, s1, s5⟩
    | 3, hq => cases hq; exact ⟨fun n z => ⟨fun k h => (by cases h), kh, g3, ch, g4⟩, kh, ch, g3, g4, g1, g5⟩
    | k + 4, hq => simp at hq
