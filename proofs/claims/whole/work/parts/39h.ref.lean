theorem sp_J6_bitCount_0f7a4 : Sp_J6_bitCount_0f7a4 := by
  intro x
  rintro x1 rfl
  rintro x2 rfl
  rintro x3 rfl
  rintro x4 rfl
  rintro x5 rfl
  rfl
