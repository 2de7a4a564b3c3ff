theorem Sim_tm {C X : zM} {u j : Nat} {k : Int} (hM : Sim C X u) (hj : j < 7) (hk : 0 ≤ k ∧ k < 3) : C (8 + 8 * j + 7) k = if X 67 (20 * (j : Int) + (11 + k)) = 1 then X 67 (20 * (j : Int) + (14 + k)) else -1 := by
  have q := (hM.2.2.2 j hj).2.2.2.2.2.2.2
  rcases (show k = 0 ∨ k = 1 ∨ k = 2 by omega) with rfl | rfl | rfl
  · exact q.1
  · exact q.2.1
  · exact q.2.2
theorem tim_at {X : zM} {s k : Int} (hI : Inv X) (h0 : 0 ≤ s ∧ s < 7) (hk : 0 ≤ k ∧ k < 3) : (X 67 (20 * s + (11 + k)) = 0 ∨ X 67 (20 * s + (11 + k)) = 1) ∧ (X 67 (20 * s + (11 + k)) = 1 → 0 ≤ X 67 (20 * s + (14 + k)) ∧ X 67 (20 * s + (14 + k)) ≤ 69) := by
  obtain ⟨-, -, -, -, -, -, -, -, -, -, -, -, q13, q14, q15, q16, q17, q18, -⟩ := (hI.2.2.2.2.1 s h0.1 h0.2).1
  rcases (show k = 0 ∨ k = 1 ∨ k = 2 by omega) with rfl | rfl | rfl
  · exact ⟨q13, q16⟩
  · exact ⟨q14, q17⟩
  · exact ⟨q15, q18⟩
theorem isSet_b {C X : zM} {u j : Nat} {k : Int} (hM : Sim C X u) (hI : Inv X) (hj : j < 7) (hk : 0 ≤ k ∧ k < 3) : bI (C (8 + 8 * j + 7) k ≠ -1) = bI (X 67 (20 * (j : Int) + (11 + k)) = 1) := by
  have a := Sim_tm hM hj hk
  have b := tim_at hI (s := (j : Int)) (by omega) hk
  refine bI_c ?_
  rw [a]
  by_cases h : X 67 (20 * (j : Int) + (11 + k)) = 1
  · rw [if_pos h]; have := b.2 h; exact ⟨fun _ => h, fun _ => by omega⟩
  · rw [if_neg h]; exact ⟨fun z => absurd rfl z, fun z => absurd z h⟩
theorem ring_b {C X : zM} {u j : Nat} {k : Int} (hM : Sim C X u) (hI : Inv X) (hj : j < 7) (hk : 0 ≤ k ∧ k < 3) (hs : X 67 (20 * (j : Int) + (11 + k)) = 1) : bI (C (8 + 8 * j + 7) k ≠ -1 ∧ C (8 + 8 * j + 7) k = cMom C j) = bI (setM X j (11 + k) 0 67 (20 * (j : Int) + (14 + k)) = 10 * setM X j (11 + k) 0 67 (20 * (j : Int) + 0) + setM X j (11 + k) 0 67 (20 * (j : Int) + 1)) := by
  have a := Sim_tm hM hj hk
  rw [if_pos hs] at a
  have b := (tim_at hI (s := (j : Int)) (by omega) hk).2 hs
  have c := Sim_f hM hj
  rw [setM_ne _ _ _ _ _ (by omega), setM_ne _ _ _ _ _ (by omega), setM_ne _ _ _ _ _ (by omega)]
  refine bI_c ?_
  unfold cMom
  rw [a, c.2.2.1, c.2.2.2.1]
  omega
theorem tim1_t {X : zM} {s : Int} (h1 : X 67 (20 * s + 2) = 1) (h2 : X 67 (20 * s + 9) = 0) (h3 : manyN X ≤ voteN X s 1 (X 67 (20 * s + 0)) (X 67 (20 * s + 1)) (-2)) : tim1M X s = some (setTimerM (setM X s 9 1) s 1) := if_pos ⟨h1, h2, h3⟩
theorem tim1_f {X : zM} {s : Int} (h : ¬ (X 67 (20 * s + 2) = 1 ∧ X 67 (20 * s + 9) = 0 ∧ manyN X ≤ voteN X s 1 (X 67 (20 * s + 0)) (X 67 (20 * s + 1)) (-2))) : tim1M X s = none := if_neg h
theorem tim2_t {X : zM} {s : Int} (h2 : X 67 (20 * s + 10) = 0) (h3 : manyN X ≤ voteN X s 2 (X 67 (20 * s + 0)) (X 67 (20 * s + 1)) (-2)) : tim2M X s = some (setTimerM (setM X s 10 1) s 2) := if_pos ⟨h2, h3⟩
theorem tim2_f {X : zM} {s : Int} (h : ¬ (X 67 (20 * s + 10) = 0 ∧ manyN X ≤ voteN X s 2 (X 67 (20 * s + 0)) (X 67 (20 * s + 1)) (-2))) : tim2M X s = none := if_neg h
theorem nil_t {X : zM} {s : Int} (h1 : X 67 (20 * s + 2) = 1) (h3 : manyN X ≤ voteN X s 1 (X 67 (20 * s + 0)) (X 67 (20 * s + 1)) (-1)) : nilM X s = some (castsM X s 2 (-1)) := if_pos ⟨h1, h3⟩
theorem nil_f {X : zM} {s : Int} (h : ¬ (X 67 (20 * s + 2) = 1 ∧ manyN X ≤ voteN X s 1 (X 67 (20 * s + 0)) (X 67 (20 * s + 1)) (-1))) : nilM X s = none := if_neg h
/-- the prevotes' two rules, one by one -/
def prevN (M : zM) (s : Int) : Option zM := if M 67 (20 * s + 2) ≠ 0 then none else match fstB (newP M s) (M 64 7).toNat 0 with
  | some l => some (castsM M s 1 (newV M s l))
  | none => none
def prevO (M : zM) (s : Int) : Option zM := if M 67 (20 * s + 2) ≠ 0 then none else prevOldM M s
theorem prev_or (M : zM) (s : Int) : prevotesM M s = orM (prevN M s) (prevO M s) := by
  unfold prevotesM prevN prevO
  by_cases h : M 67 (20 * s + 2) ≠ 0
  · rw [if_pos h, if_pos h, if_pos h]; rfl
  · rw [if_neg h, if_neg h, if_neg h]
    cases fstB (newP M s) (M 64 7).toNat 0 <;> rfl
theorem flag_rng {X : zM} {s : Int} (hI : Inv X) (h0 : 0 ≤ s ∧ s < 7) : (X 67 (20 * s + 8) = 0 ∨ X 67 (20 * s + 8) = 1) ∧ (X 67 (20 * s + 9) = 0 ∨ X 67 (20 * s + 9) = 1) ∧ (X 67 (20 * s + 10) = 0 ∨ X 67 (20 * s + 10) = 1) := by
  obtain ⟨-, -, -, -, -, -, -, -, -, q10, q11, q12, -⟩ := (hI.2.2.2.2.1 s h0.1 h0.2).1
  exact ⟨q10, q11, q12⟩
