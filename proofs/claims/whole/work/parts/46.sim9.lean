theorem lock_s {X : zM} {s : Int} (h : X 67 (20 * s + 2) = 0 ∨ X 67 (20 * s + 8) = 1) : locksM X s = none := if_pos h
theorem lock_n {X : zM} {s : Int} (h : ¬ (X 67 (20 * s + 2) = 0 ∨ X 67 (20 * s + 8) = 1)) (hf : fstB (supP X s (X 67 (20 * s + 1)) 1) (X 64 7).toNat 0 = none) : locksM X s = none := by
  unfold locksM
  rw [if_neg h, hf]
theorem lock_1 {X : zM} {s : Int} {q : Nat} (h : ¬ (X 67 (20 * s + 2) = 0 ∨ X 67 (20 * s + 8) = 1)) (hf : fstB (supP X s (X 67 (20 * s + 1)) 1) (X 64 7).toNat 0 = some q) (h1 : X 67 (20 * s + 2) = 1) : locksM X s = some (setM (setM (castsM (setM (setM (setM X s 8 1) s 3 (X 69 (6 * (q : Int) + 4))) s 4 (X 67 (20 * s + 1))) s 2 (X 69 (6 * (q : Int) + 4))) s 5 (X 69 (6 * (q : Int) + 4))) s 6 (X 67 (20 * s + 1))) := by
  unfold locksM
  rw [if_neg h, hf]
  show some (doLockM X s (X 69 (6 * (q : Int) + 4))) = _
  unfold doLockM
  rw [if_pos h1]
theorem lock_2 {X : zM} {s : Int} {q : Nat} (h : ¬ (X 67 (20 * s + 2) = 0 ∨ X 67 (20 * s + 8) = 1)) (hf : fstB (supP X s (X 67 (20 * s + 1)) 1) (X 64 7).toNat 0 = some q) (h1 : X 67 (20 * s + 2) ≠ 1) : locksM X s = some (setM (setM (setM X s 8 1) s 5 (X 69 (6 * (q : Int) + 4))) s 6 (X 67 (20 * s + 1))) := by
  unfold locksM
  rw [if_neg h, hf]
  show some (doLockM X s (X 69 (6 * (q : Int) + 4))) = _
  unfold doLockM
  rw [if_neg h1]
theorem castsM_let {X : zM} {s kd v : Int} {q : Nat} (h : (q : Int) < X 64 7) : castsM X s kd v 69 (6 * (q : Int) + 4) = X 69 (6 * (q : Int) + 4) := by
  unfold castsM
  rw [setM_cell _ _ _ _ (by decide)]
  by_cases e : X 64 7 = 400
  · rw [sendsM_full e]
  · rw [sendsM_69 e, if_neg (by omega), if_neg (by omega), if_neg (by omega), if_neg (by omega), if_neg (by omega), if_neg (by omega)]
theorem Sim_l4 {C X : zM} {u q : Nat} (hM : Sim C X u) (h : (q : Int) < X 64 7) : C (71 + q) 4 = X 69 (6 * (q : Int) + 4) := (hM.1.2.2.2.2 q h).1.2.2.2.2.1
