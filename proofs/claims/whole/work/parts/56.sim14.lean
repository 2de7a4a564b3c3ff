theorem tm_set {C X : zM} {u j : Nat} {k : Int} (hM : Sim C X u) (hI : Inv X) (hj : j < 7) (hk : 0 ≤ k ∧ k < 3) : bI (C (8 + 8 * j + 7) k ≠ -1) = bI (X 67 (20 * (j : Int) + (11 + k)) ≠ 0) := by
  have q := (hM.2.2.2 j hj).2.2.2.2.2.2.2
  have i := (hI.2.2.2.2.1 (j : Int) (by omega) (by omega)).1
  obtain ⟨-, -, -, -, -, -, -, -, -, -, -, -, i11, i12, i13, i14, i15, i16, -⟩ := i
  refine bI_c ?_
  have q0 : C (8 + 8 * j + 7) 0 = if X 67 (20 * (j : Int) + 11) = 1 then X 67 (20 * (j : Int) + 14) else -1 := q.1
  have q1 : C (8 + 8 * j + 7) 1 = if X 67 (20 * (j : Int) + 12) = 1 then X 67 (20 * (j : Int) + 15) else -1 := q.2.1
  have q2 : C (8 + 8 * j + 7) 2 = if X 67 (20 * (j : Int) + 13) = 1 then X 67 (20 * (j : Int) + 16) else -1 := q.2.2
  have two : ∀ r t : Int, (r = 0 ∨ r = 1) → (r = 1 → 0 ≤ t ∧ t ≤ 69) → ((if r = 1 then t else -1) ≠ -1 ↔ r ≠ 0) := fun r t a b => by
    rcases a with rfl | rfl
    · rw [if_neg (by decide)]; decide
    · have := b rfl
      rw [if_pos rfl]
      omega
  rcases (show k = 0 ∨ k = 1 ∨ k = 2 by omega) with rfl | rfl | rfl
  · rw [q0]; exact two _ _ i11 i14
  · rw [q1]; exact two _ _ i12 i15
  · rw [q2]; exact two _ _ i13 i16
theorem rm_c {mm v t : Nat} (h : v ≤ t) : 0 + (v - mm) ≤ t - mm := by omega
theorem rm_c8 {mm v t : Nat} (h : v ≤ t) : 0 + 8 * (v - mm) ≤ 8 * (t - mm) := by omega
theorem rm_d {mm v t : Nat} (a : mm ≤ v) (b : v ≤ t) : 0 + (v - mm) + (t - v) ≤ t - mm := by omega
theorem rm_d8 {mm v t : Nat} (a : mm ≤ v) (b : v ≤ t) : 0 + 8 * (v - mm) + 8 * (t - v) ≤ 8 * (t - mm) := by omega
theorem rm_f {mm v t z : Nat} (h : z = t) (a : mm ≤ v) (b : v ≤ t) : 0 + (v - mm) + (z - v) ≤ t - mm := by omega
theorem rm_f8 {mm v t z : Nat} (h : z = t) (a : mm ≤ v) (b : v ≤ t) : 0 + 8 * (v - mm) + 8 * (z - v) ≤ 8 * (t - mm) := by omega
