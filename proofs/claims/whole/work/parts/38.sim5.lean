theorem shl_own {j : Nat} (hj : j < 7) : bShl 1 (j : Int) = msk (fun t => decide ((1 : Int) ≠ 0 ∧ (t : Int) = (j : Int))) 7 := by
  refine (shl_one ⟨j, hj⟩).trans (msk_congr fun t _ => ?_)
  rw [decide_eq_decide]
  show t = j ↔ _
  constructor
  · intro h; exact ⟨by decide, by omega⟩
  · intro h; have := h.2; omega
theorem mU_set (u : Nat) (X : zM) (s k v : Int) : mU u (setM X s k v) = mU u X := by
  unfold mU
  rw [setM_cell _ _ _ _ (by decide)]
theorem mU_mU {u : Nat} {X Y : zM} (h : X 64 7 ≤ Y 64 7) : mU (mU u X) Y = mU u Y := by
  unfold mU
  rw [Nat.max_assoc, Nat.max_eq_right (show (X 64 7).toNat ≤ (Y 64 7).toNat by omega)]
theorem mU_self {u : Nat} {X : zM} (h : X 64 7 ≤ (u : Int)) : mU u X = u := by
  unfold mU
  exact Nat.max_eq_left (by omega)
theorem mU_eq7 {u : Nat} {X Y : zM} (h : X 64 7 = Y 64 7) : mU u X = mU u Y := by
  unfold mU
  rw [h]
theorem enterM_64 (X : zM) (s r : Int) : enterM X s r 64 = X 64 := by
  unfold enterM
  rw [setM_cell _ _ _ _ (by decide), setM_cell _ _ _ _ (by decide), setM_cell _ _ _ _ (by decide), setM_cell _ _ _ _ (by decide), setM_cell _ _ _ _ (by decide)]
theorem setTimerM_64 (X : zM) (s k : Int) : setTimerM X s k 64 = X 64 := by
  unfold setTimerM
  rw [setM_cell _ _ _ _ (by decide), setM_cell _ _ _ _ (by decide)]
theorem starts_a {X : zM} {s r : Int} (h : 9 < r) : startsM X s r = setM X s 7 1 := if_pos h
theorem starts_b {X : zM} {s r : Int} (h : ¬ 9 < r) (h2 : (enterM X s r 67 (20 * s + 0) + r) % enterM X s r 64 0 ≠ s) : startsM X s r = setTimerM (enterM X s r) s 0 := by
  unfold startsM
  rw [if_neg h, if_pos h2]
theorem starts_c {X : zM} {s r : Int} (h : ¬ 9 < r) (h2 : (enterM X s r 67 (20 * s + 0) + r) % enterM X s r 64 0 = s) (h3 : 0 ≤ enterM X s r 67 (20 * s + 5)) : startsM X s r = sendsM (enterM X s r) s 0 (enterM X s r 67 (20 * s + 0)) (enterM X s r 67 (20 * s + 1)) (enterM X s r 67 (20 * s + 5)) (enterM X s r 67 (20 * s + 6)) 1 := by
  unfold startsM
  rw [if_neg h, if_neg (fun q => q h2), if_pos h3, enterM_1]
theorem starts_d {X : zM} {s r : Int} (h : ¬ 9 < r) (h2 : (enterM X s r 67 (20 * s + 0) + r) % enterM X s r 64 0 = s) (h3 : ¬ 0 ≤ enterM X s r 67 (20 * s + 5)) : startsM X s r = sendsM (enterM X s r) s 0 (enterM X s r 67 (20 * s + 0)) (enterM X s r 67 (20 * s + 1)) (leastV (enterM X s r) s) (-1) 1 := by
  unfold startsM
  rw [if_neg h, if_neg (fun q => q h2), if_neg h3, enterM_1]
