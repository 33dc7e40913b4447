/-! what the seasons do doesn't hang on the fault -/
theorem mv_flt (a : AS) (v S : Nat) (r : RS) : ∀ n, mvR (setN a 7 v) S r n = mvR a S r n := by
  intro n
  induction n with
  | zero => rfl
  | succ n ih => rw [mvR, mvR, ih]; rfl
theorem br_flt (a : AS) (v S : Nat) (r : RS) : ∀ n, brR (setN a 7 v) S r n = brR a S r n := by
  intro n
  induction n with
  | zero => rfl
  | succ n ih => rw [brR, brR, ih]; rfl
theorem ch_flt (a : AS) (v : Nat) (r : RS) (T h : Nat) : ∀ n, chR (setN a 7 v) r T h n = chR a r T h n := by
  intro n
  induction n with
  | zero => rfl
  | succ n ih => rw [chR, chR, ih]; rfl
theorem hd_flt (a : AS) (v : Nat) (r : RS) (h t T : Nat) : ∀ n, hdR (setN a 7 v) r h t T n = hdR a r h t T n := by
  intro n
  induction n with
  | zero => rfl
  | succ n ih => rw [hdR, hdR, ih]; rfl
theorem tl_flt (a : AS) (v T : Nat) (r : RS) (h : Nat) : tlR (setN a 7 v) T r h = tlR a T r h := by
  unfold tlR
  rw [show nT (setN a 7 v) = nT a from rfl, show nP (setN a 7 v) = nP a from rfl, ch_flt, hd_flt]
theorem se_flt (a : AS) (v S : Nat) (r : RS) : seR (setN a 7 v) S r = seR a S r := by
  unfold seR
  rw [show nT (setN a 7 v) = nT a from rfl, show nM (setN a 7 v) = nM a from rfl, mv_flt, br_flt, tl_flt, tl_flt, tl_flt]
theorem for_flt (a : AS) (v : Nat) (r : RS) (T : Nat) : ∀ n, forR (setN a 7 v) r T n = forR a r T n := by
  intro n
  induction n with
  | zero => rfl
  | succ n ih => rw [forR, forR, ih]; rfl
theorem ban_flt {a : AS} {v : Nat} (hr : ∀ T, runR (setN a 7 v) T = runR a T) (d S : Nat) : banB (setN a 7 v) d S = banB a d S := by
  unfold banB forb
  rw [hr, for_flt]; rfl
