theorem beginS_t {k t : Nat} {M : zM} (hk : 0 < k) (h : M 65 t = 0) : beginS k t M = beginS (k - 1) (t + 1) (rulesM (startsM M t 0) t) := by
  cases k with
  | zero => omega
  | succ k => rw [beginS, if_pos h]; rfl
theorem beginS_f {k t : Nat} {M : zM} (hk : 0 < k) (h : ¬ M 65 t = 0) : beginS k t M = beginS (k - 1) (t + 1) M := by
  cases k with
  | zero => omega
  | succ k => rw [beginS, if_neg h]; rfl
theorem brS_t {l : Int} {k t : Nat} {M : zM} {b : Int} (hk : 0 < k) (h : M 65 t = 0 ∧ M 70 (7 * l + (t : Int)) = 0) : brS l k t M b = brS l (k - 1) (t + 1) (comesM M l t) 1 := by
  cases k with
  | zero => omega
  | succ k => rw [brS, if_pos h]; rfl
theorem brS_f {l : Int} {k t : Nat} {M : zM} {b : Int} (hk : 0 < k) (h : ¬ (M 65 t = 0 ∧ M 70 (7 * l + (t : Int)) = 0)) : brS l k t M b = brS l (k - 1) (t + 1) M b := by
  cases k with
  | zero => omega
  | succ k => rw [brS, if_neg h]; rfl
theorem brL_S {k l : Nat} {M : zM} {b : Int} (hk : 0 < k) (h : (l : Int) < M 64 7) : brL k l M b = brL (k - 1) (l + 1) (brS l (M 64 0).toNat 0 M b).1 (brS l (M 64 0).toNat 0 M b).2 := by
  cases k with
  | zero => omega
  | succ k => rw [brL, if_pos h]; rfl
theorem brL_end {k l : Nat} {M : zM} {b : Int} (h : ¬ (l : Int) < M 64 7) : brL k l M b = (M, b) := by
  cases k with
  | zero => rfl
  | succ k => rw [brL, if_neg h]
theorem rgK_t {s : Int} {k t : Nat} {M : zM} {b : Int} (hk : 0 < k) (h : M 67 (20 * s + (11 + (t : Int))) = 1) : rgK s k t M b = rgK s (k - 1) (t + 1) (endsM M s t) 1 := by
  cases k with
  | zero => omega
  | succ k => rw [rgK, if_pos h]; rfl
theorem rgK_f {s : Int} {k t : Nat} {M : zM} {b : Int} (hk : 0 < k) (h : ¬ M 67 (20 * s + (11 + (t : Int))) = 1) : rgK s k t M b = rgK s (k - 1) (t + 1) M b := by
  cases k with
  | zero => omega
  | succ k => rw [rgK, if_neg h]; rfl
theorem rgS_S {k t : Nat} {M : zM} {b : Int} (hk : 0 < k) : rgS k t M b = rgS (k - 1) (t + 1) (rgK t 3 0 M b).1 (rgK t 3 0 M b).2 := by
  cases k with
  | zero => omega
  | succ k => rw [rgS]; rfl
theorem fairF_t {k : Nat} {d : Int} {M : zM} (hk : 0 < k) (h : (turnsM M).2 ≠ 0) : fairF k d M = fairF (k - 1) (d + 1) (turnsM M).1 := by
  cases k with
  | zero => omega
  | succ k => rw [fairF, if_pos h]; rfl
theorem fairF_f {k : Nat} {d : Int} {M : zM} (hk : 0 < k) (h : ¬ (turnsM M).2 ≠ 0) : fairF k d M = ((turnsM M).1, d) := by
  cases k with
  | zero => omega
  | succ k => rw [fairF, if_neg h]
