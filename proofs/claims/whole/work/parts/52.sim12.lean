/-! ===== what seat, decided, letter answer ===== -/
theorem Sim_mk {C X : zM} {u j : Nat} (hM : Sim C X u) (hj : j < 7) : (C (8 + 8 * j + 1) 0 = (if X 67 (20 * (j : Int) + 3) < 0 then -4 else X 67 (20 * (j : Int) + 3)) ∧ C (8 + 8 * j + 1) 1 = (if X 67 (20 * (j : Int) + 3) < 0 then -4 else X 67 (20 * (j : Int) + 4))) ∧ (C (8 + 8 * j + 2) 0 = (if X 67 (20 * (j : Int) + 5) < 0 then -4 else X 67 (20 * (j : Int) + 5)) ∧ C (8 + 8 * j + 2) 1 = (if X 67 (20 * (j : Int) + 5) < 0 then -4 else X 67 (20 * (j : Int) + 6))) := by
  refine ⟨?_, ?_⟩
  · rcases Sim_lk hM hj with q | q
    · rw [if_pos q.1, if_pos q.1]; exact q.2
    · rw [if_neg (by omega), if_neg (by omega)]; exact q.2
  · rcases Sim_vl hM hj with q | q
    · rw [if_pos q.1, if_pos q.1]; exact q.2
    · rw [if_neg (by omega), if_neg (by omega)]; exact q.2
theorem tm_of {r t : Int} (h : r = 0 ∨ r = 1) (ht : r = 1 → 0 ≤ t) : (if decide ((if r = 1 then t else -1) ≠ -1) = true then (1 : Int) else 0) = r := by
  rcases h with rfl | rfl
  · rfl
  · have := ht rfl
    rw [if_pos (by rw [decide_eq_true_eq, if_pos rfl]; omega)]
theorem Sim_tb {C X : zM} {u j : Nat} (hM : Sim C X u) (hI : Inv X) (hj : j < 7) : msk (tmP C j) 3 = X 67 (20 * (j : Int) + 11) + 2 * X 67 (20 * (j : Int) + 12) + 4 * X 67 (20 * (j : Int) + 13) := by
  have q := (hM.2.2.2 j hj).2.2.2.2.2.2.2
  have i := (hI.2.2.2.2.1 (j : Int) (by omega) (by omega)).1
  obtain ⟨-, -, -, -, -, -, -, -, -, -, -, -, i11, i12, i13, i14, i15, i16, -⟩ := i
  rw [msk3 _ _ _ (tmP C j) rfl rfl rfl]
  have e0 : tmP C j 0 = decide (C (8 + 8 * j + 7) 0 ≠ -1) := rfl
  have e1 : tmP C j 1 = decide (C (8 + 8 * j + 7) 1 ≠ -1) := rfl
  have e2 : tmP C j 2 = decide (C (8 + 8 * j + 7) 2 ≠ -1) := rfl
  have q0 : C (8 + 8 * j + 7) 0 = if X 67 (20 * (j : Int) + 11) = 1 then X 67 (20 * (j : Int) + 14) else -1 := q.1
  have q1 : C (8 + 8 * j + 7) 1 = if X 67 (20 * (j : Int) + 12) = 1 then X 67 (20 * (j : Int) + 15) else -1 := q.2.1
  have q2 : C (8 + 8 * j + 7) 2 = if X 67 (20 * (j : Int) + 13) = 1 then X 67 (20 * (j : Int) + 16) else -1 := q.2.2
  rw [e0, e1, e2, q0, q1, q2]
  rw [tm_of i11 (fun z => (i14 z).1), tm_of i12 (fun z => (i15 z).1), tm_of i13 (fun z => (i16 z).1)]
theorem Sim_stg {C X : zM} {u j : Nat} (hM : Sim C X u) (hI : Inv X) (hj : j < 7) : (if C (8 + 8 * j) 1 ≠ 0 then (1 : Int) else if 6 ≤ C (8 + 8 * j) 2 then 2 else if C (8 + 8 * j) 5 ≠ 0 then 3 else 0) = (if X 65 (j : Int) ≠ 0 then 1 else if 5 < X 67 (20 * (j : Int) + 0) then 2 else if X 67 (20 * (j : Int) + 7) = 1 then 3 else 0) := by
  have f := Sim_f hM hj
  have i := (hI.2.2.2.2.1 (j : Int) (by omega) (by omega)).1
  rw [f.2.1, f.2.2.1, f.2.2.2.2.2]
  have i7 := i.2.2.2.2.2.2.2.2.1
  by_cases a : X 65 (j : Int) ≠ 0
  · rw [if_pos a, if_pos a]
  · rw [if_neg a, if_neg a]
    by_cases b : 5 < X 67 (20 * (j : Int) + 0)
    · rw [if_pos b, if_pos (by omega)]
    · rw [if_neg b, if_neg (by omega)]
      rcases i7 with z | z
      · rw [z]; rfl
      · rw [z]; rfl
theorem rDec_0 {C X : zM} {u j : Nat} (hM : Sim C X u) (hj : j < 7) (hj0 : (j : Int) < X 64 0) {h : Int} (h0 : 0 ≤ h ∧ h ≤ 5) : C (8 + 8 * j + 4) h = rDec X j h 0 ∧ C (8 + 8 * j + 5) h = rDec X j h 1 := by
  have q : C (8 + 8 * j + 4) h = nn (X 68 (12 * (j : Int) + 2 * h)) ∧ (0 ≤ X 68 (12 * (j : Int) + 2 * h) → C (8 + 8 * j + 5) h = X 68 (12 * (j : Int) + (2 * h + 1))) ∧ (X 68 (12 * (j : Int) + 2 * h) < 0 → C (8 + 8 * j + 5) h = -4) := (hM.2.2.2 j hj).2.2.2.2.2.1 h (by omega) (by omega)
  rw [← Int.add_assoc] at q
  have e1 : ¬ ¬ ((0 ≤ (j : Int) ∧ (j : Int) ≤ X 64 0 - 1) ∧ (0 ≤ h ∧ h ≤ 5) ∧ 0 ≤ (0 : Int) ∧ (0 : Int) ≤ 2) := by omega
  have e2 : ¬ ¬ ((0 ≤ (j : Int) ∧ (j : Int) ≤ X 64 0 - 1) ∧ (0 ≤ h ∧ h ≤ 5) ∧ 0 ≤ (1 : Int) ∧ (1 : Int) ≤ 2) := by omega
  rw [rDec, rDec, if_neg e1, if_neg e2]
  by_cases c : X 68 (12 * (j : Int) + 2 * h) < 0
  · rw [if_pos c, if_pos c]
    exact ⟨q.1.trans (nn_neg c), q.2.2 c⟩
  · rw [if_neg c, if_neg c, if_pos (by decide), if_pos (by decide), Int.add_zero]
    exact ⟨q.1.trans (nn_pos (by omega)), q.2.1 (by omega)⟩
theorem lnkF_congr {f g : Nat → Int} : ∀ {n : Nat}, (∀ k, k < n → f k = g k) → lnkF f n = lnkF g n
  | 0, _ => rfl
  | n + 1, h => by rw [lnkF, lnkF, lnkF_congr (fun k hk => h k (by omega)), h n (by omega)]
theorem rDec_2 {C X : zM} {u j : Nat} (hM : Sim C X u) (hI : Inv X) (hj : j < 7) (hj0 : (j : Int) < X 64 0) {h : Int} (h0 : 0 ≤ h ∧ h ≤ 5) : cLink C j h = rDec X j h 2 := by
  have q : ∀ h : Int, 0 ≤ h → h < 6 → C (8 + 8 * j + 4) h = nn (X 68 (12 * (j : Int) + 2 * h)) := fun h a b => ((hM.2.2.2 j hj).2.2.2.2.2.1 h a b).1
  have d := (hI.2.2.2.2.1 (j : Int) (by omega) (by omega)).2
  have e1 : ¬ ¬ ((0 ≤ (j : Int) ∧ (j : Int) ≤ X 64 0 - 1) ∧ (0 ≤ h ∧ h ≤ 5) ∧ 0 ≤ (2 : Int) ∧ (2 : Int) ≤ 2) := by omega
  rw [rDec, if_neg e1, cLink]
  have qh := q h (by omega) (by omega)
  by_cases c : X 68 (12 * (j : Int) + 2 * h) < 0
  · rw [if_pos c, if_pos (qh.trans (nn_neg c))]
  · rw [if_neg (fun z => c (nn_4.mp (qh.symm.trans z))), if_neg c, if_neg (by decide)]
    unfold lnkI
    rw [lnkF_congr (g := fun k => X 68 (12 * (j : Int) + 2 * (k : Int)))]
    intro k hk
    have dh := (d h (by omega) (by omega)).2.1.mp (by omega)
    have dk := (d (k : Int) (by omega) (by omega)).2.1.mpr (by omega)
    exact (q (k : Int) (by omega) (by omega)).trans (nn_pos dk)
theorem let_cnt {C X : zM} {u y : Nat} (hS : PostS C X u) (hI : Inv X) (hy : (y : Int) < X 64 7) : popZ (C (71 + y) 6) = cntB (fun t => decide (X 70 (7 * (y : Int) + (t : Int)) ≠ 0)) (X 64 0).toNat := by
  have hn := hI.1
  have c := (hI.2.2.2.2.2.1 (y : Int) (by omega) hy).2
  rw [(hS.2.2.2.2 y hy).2.1, msk_pop]
  exact cntB_cut (P := fun t => decide (X 70 (7 * (y : Int) + (t : Int)) ≠ 0)) (n := (X 64 0).toNat) (k := 7) (by omega) (fun t a b => by
    rw [decide_eq_true_eq]
    exact fun z => z ((c (t : Int) (by omega) (by omega)).2 (by omega)))
theorem let_rng6 {C X : zM} {u y : Nat} (hS : PostS C X u) (hy : (y : Int) < X 64 7) : 0 ≤ C (71 + y) 6 ∧ C (71 + y) 6 < 128 := by
  rw [(hS.2.2.2.2 y hy).2.1]
  exact msk_rng _
theorem slF_pos {kd h r : Int} (q : 0 ≤ slF kd h r) : (0 ≤ kd ∧ kd ≤ 2) ∧ (0 ≤ h ∧ h ≤ 5) ∧ 0 ≤ r ∧ r ≤ 9 := by
  by_cases c : (0 ≤ kd ∧ kd ≤ 2) ∧ (0 ≤ h ∧ h ≤ 5) ∧ 0 ≤ r ∧ r ≤ 9
  · exact c
  · rw [slF, if_neg c] at q
    omega
theorem slF_neg {kd h r : Int} (q : slF kd h r < 0) : ¬ ((0 ≤ kd ∧ kd ≤ 2) ∧ (0 ≤ h ∧ h ≤ 5) ∧ 0 ≤ r ∧ r ≤ 9) := by
  intro c
  rw [slF, if_pos c] at q
  omega
theorem slF_rng (kd h r : Int) : -1 ≤ slF kd h r ∧ slF kd h r < 180 := by
  unfold slF
  split <;> omega
