/-! ===== hold, falseSeat, begin, seats: the class's memory shows the reference's ===== -/
theorem SeatV_hl {a m1 m2 vs rs hd tm r dc hl hl' : Int → Int} {fl j : Int} (h : ∀ v : Int, 0 ≤ v → v < 100 → hl' v = hl v) (q : SeatV a m1 m2 vs rs hd tm r dc hl fl j) : SeatV a m1 m2 vs rs hd tm r dc hl' fl j := by
  unfold SeatV at q ⊢
  refine ⟨q.1, q.2.1, ?_, q.2.2.2.1, q.2.2.2.2.1, q.2.2.2.2.2.1, fun v x y => by rw [h v x y]; exact q.2.2.2.2.2.2.1 v x y, q.2.2.2.2.2.2.2⟩
  rw [q.2.2.1]
  exact cntB_congr fun i hi => by rw [h (i : Int) (by omega) (by omega)]
theorem cntB_one {P Q : Nat → Bool} {v : Nat} (hp : ¬ P v = true) (hq : Q v = true) (h : ∀ i, i ≠ v → Q i = P i) : ∀ n : Nat, v < n → cntB Q n = cntB P n + 1
  | 0, hv => by omega
  | n + 1, hv => by
    rw [cntB_S, cntB_S]
    by_cases e : v = n
    · subst e
      rw [bI_f hp, bI_t hq, cntB_congr (P := Q) (Q := P) (n := v) (fun i hi => h i (by omega))]
      omega
    · rw [cntB_one hp hq h n (by omega), h n (fun z => e z.symm)]
      omega
theorem SeatV_take {a m1 m2 vs rs hd tm r dc hl : Int → Int} {fl j v : Int} (hv : 0 ≤ v ∧ v < 100) (h0 : hl v = 0) (q : SeatV a m1 m2 vs rs hd tm r dc hl fl j) :
    SeatV (fun k => if k = 9 then a 9 + 1 else a k) m1 m2 vs rs (fun k => if k = v then 1 else hd k) tm r dc (fun k => if k = v then 1 else hl k) fl j := by
  unfold SeatV at q ⊢
  refine ⟨?_, ?_, ?_, q.2.2.2.1, q.2.2.2.2.1, q.2.2.2.2.2.1, fun z x y => ?_, q.2.2.2.2.2.2.2⟩
  · simp only [Int.reduceEq, ↓reduceIte]
    exact q.1
  · simp only [Int.reduceEq, ↓reduceIte]
    exact q.2.1
  · simp only [↓reduceIte]
    rw [q.2.2.1]
    refine (cntB_one (v := v.toNat) ?_ ?_ (fun i hi => ?_) 100 (by omega)).symm
    · rw [decide_eq_true_eq, show ((v.toNat : Nat) : Int) = v by omega]
      exact fun z => z h0
    · rw [decide_eq_true_eq, if_pos (by omega)]
      decide
    · have y : (if (i : Int) = v then (1 : Int) else hl i) = hl i := if_neg (by omega)
      simp only [y]
  · simp only
    rw [q.2.2.2.2.2.2.1 z x y]
theorem Sim_hold {C X : zM} {u j : Nat} {v : Int} (hS : Sim C X u) (hI : Inv X) (hj : j < 7) (hv : 1 ≤ v ∧ v ≤ 99) : Sim (cTake C j v) (up X 66 (100 * (j : Int) + v) 1) u := by
  have hd := (hS.2.2.2 j hj).2.2.2.2.2.2.1 v (by omega) (by omega)
  have hd' : C (8 + 8 * j + 6) v = X 66 (100 * (j : Int) + v) := hd
  by_cases c : X 66 (100 * (j : Int) + v) = 0
  · have e : cTake C j v = up (up C (8 + 8 * j + 6) v 1) (8 + 8 * j) 9 (C (8 + 8 * j) 9 + 1) := by
      unfold cTake
      rw [if_neg (by rw [hd']; exact fun z => z c)]
    rw [e]
    have x0 : ∀ i, i ≠ 66 → up X 66 (100 * (j : Int) + v) 1 i = X i := fun i h => up_cell _ _ _ h
    have c0 : ∀ i, i < 8 + 8 * j ∨ 8 + 8 * j + 8 ≤ i → up (up C (8 + 8 * j + 6) v 1) (8 + 8 * j) 9 (C (8 + 8 * j) 9 + 1) i = C i := fun i h => by rw [up_cell _ _ _ (by omega), up_cell _ _ _ (by omega)]
    obtain ⟨hP, h0, ht, hh⟩ := hS
    refine ⟨PostS_congr hP (fun i hi => c0 i (by omega)) (by rw [x0 64 (by decide)]) (x0 69 (by decide)) (x0 70 (by decide)), by rw [c0 0 (by omega), c0 1 (by omega), x0 64 (by decide)]; exact h0, fun k hk => by rw [c0 7 (by omega)]; exact ht k hk, fun k hk => ?_⟩
    have q := hh k hk
    unfold SeatC at q ⊢
    have e1 : sR (up X 66 (100 * (j : Int) + v) 1) k = sR X k := by unfold sR; rw [x0 67 (by decide)]
    have e2 : sD (up X 66 (100 * (j : Int) + v) 1) k = sD X k := by unfold sD; rw [x0 68 (by decide)]
    rw [e1, e2, x0 65 (by decide)]
    by_cases z : k = j
    · subst z
      rw [up_at, up_cell _ _ _ (by omega), up_cell _ _ _ (by omega), up_cell _ _ _ (by omega), up_cell _ _ _ (by omega), up_cell _ _ _ (by omega), up_cell _ _ _ (by omega), up_cell _ _ _ (by omega), up_cell _ _ _ (by omega), up_cell _ _ _ (by omega), up_cell _ _ _ (by omega), up_at, up_cell _ _ _ (by omega), up_cell _ _ _ (by omega)]
      have t := SeatV_take (v := v) (by omega) c q
      refine SeatV_hl (fun y a b => ?_) t
      unfold sH up
      by_cases y0 : y = v
      · rw [if_pos y0, if_pos ⟨rfl, by omega⟩]
      · rw [if_neg y0, if_neg (fun w => y0 (by have := w.2; omega))]
    · rw [c0 (8 + 8 * k) (by omega), c0 (8 + 8 * k + 1) (by omega), c0 (8 + 8 * k + 2) (by omega), c0 (8 + 8 * k + 4) (by omega), c0 (8 + 8 * k + 5) (by omega), c0 (8 + 8 * k + 6) (by omega), c0 (8 + 8 * k + 7) (by omega)]
      refine SeatV_hl (fun y a b => ?_) q
      unfold sH up
      rw [if_neg (fun w => by have := w.2; omega)]
  · have i := hI.2.2.2.2.2.2 (j : Int) v (by omega) (by omega) (by omega) (by omega)
    have e : cTake C j v = C := by
      unfold cTake
      rw [if_pos (by rw [hd']; exact c)]
    have e2 : up X 66 (100 * (j : Int) + v) 1 = X := by
      funext a b
      unfold up
      by_cases y : a = 66 ∧ b = 100 * (j : Int) + v
      · rw [if_pos y, y.1, y.2]; exact (i.resolve_left c).symm
      · rw [if_neg y]
    rw [e, e2]
    exact hS
theorem Sim_false {C X : zM} {u j : Nat} (hS : Sim C X u) (hj : j < 7) : Sim (up C (8 + 8 * j) 1 1) (up X 65 (j : Int) 1) u := by
  have x0 : ∀ i, i ≠ 65 → up X 65 (j : Int) 1 i = X i := fun i h => up_cell _ _ _ h
  have c0 : ∀ i, i ≠ 8 + 8 * j → up C (8 + 8 * j) 1 1 i = C i := fun i h => up_cell _ _ _ h
  obtain ⟨hP, h0, ht, hh⟩ := hS
  refine ⟨PostS_congr hP (fun i hi => c0 i (by omega)) (by rw [x0 64 (by decide)]) (x0 69 (by decide)) (x0 70 (by decide)), by rw [c0 0 (by omega), c0 1 (by omega), x0 64 (by decide)]; exact h0, fun k hk => by rw [c0 7 (by omega)]; exact ht k hk, fun k hk => ?_⟩
  have q := hh k hk
  unfold SeatC at q ⊢
  have e1 : sR (up X 65 (j : Int) 1) k = sR X k := by unfold sR; rw [x0 67 (by decide)]
  have e2 : sD (up X 65 (j : Int) 1) k = sD X k := by unfold sD; rw [x0 68 (by decide)]
  have e3 : sH (up X 65 (j : Int) 1) k = sH X k := by unfold sH; rw [x0 66 (by decide)]
  rw [e1, e2, e3, c0 (8 + 8 * k + 1) (by omega), c0 (8 + 8 * k + 2) (by omega), c0 (8 + 8 * k + 4) (by omega), c0 (8 + 8 * k + 5) (by omega), c0 (8 + 8 * k + 6) (by omega), c0 (8 + 8 * k + 7) (by omega)]
  by_cases z : k = j
  · subst z
    rw [up_at, up_self]
    unfold SeatV at q ⊢
    simp only [Int.reduceEq, ↓reduceIte]
    exact ⟨⟨q.1.1, trivial, q.1.2.2⟩, q.2⟩
  · rw [c0 (8 + 8 * k) (by omega), show up X 65 (j : Int) 1 65 (k : Int) = X 65 (k : Int) from if_neg (fun w => by have := w.2; omega)]
    exact q
theorem Sim_begun {C X : zM} {u : Nat} (hS : Sim C X u) : Sim (up C 0 4 1) (up X 64 2 1) u := by
  have x0 : ∀ i, i ≠ 64 → up X 64 2 1 i = X i := fun i h => up_cell _ _ _ h
  have c0 : ∀ i, i ≠ 0 → up C 0 4 1 i = C i := fun i h => up_cell _ _ _ h
  obtain ⟨hP, h0, ht, hh⟩ := hS
  refine ⟨PostS_congr hP (fun i hi => c0 i (by omega)) rfl (x0 69 (by decide)) (x0 70 (by decide)), ⟨by rw [up_self, up_self], h0.2.1, by rw [c0 1 (by omega)]; exact h0.2.2⟩, fun k hk => by rw [c0 7 (by omega)]; exact ht k hk, fun k hk => ?_⟩
  have q := hh k hk
  unfold SeatC at q ⊢
  have e1 : sR (up X 64 2 1) k = sR X k := by unfold sR; rw [x0 67 (by decide)]
  have e2 : sD (up X 64 2 1) k = sD X k := by unfold sD; rw [x0 68 (by decide)]
  have e3 : sH (up X 64 2 1) k = sH X k := by unfold sH; rw [x0 66 (by decide)]
  rw [e1, e2, e3, x0 65 (by decide), c0 (8 + 8 * k) (by omega), c0 (8 + 8 * k + 1) (by omega), c0 (8 + 8 * k + 2) (by omega), c0 (8 + 8 * k + 4) (by omega), c0 (8 + 8 * k + 5) (by omega), c0 (8 + 8 * k + 6) (by omega), c0 (8 + 8 * k + 7) (by omega)]
  exact q
/-- seats: all cleared -/
def clN (B : zM) : Nat → zM
  | 0 => B
  | i + 1 => cClr (clN B i) i
def ptClr (B : zM) : zM := fillM (fillM (up B 2 3 0) 4 0 180 (-1)) 5 0 180 (-1)
def stsB (C : zM) (t n : Int) : zM := ptClr (up (up (up C 0 5 t) 0 4 0) 1 0 n)
theorem cClr_ne (G : zM) {i j : Nat} (h : i < 8 + 8 * j ∨ 8 + 8 * j + 8 ≤ i) : cClr G j i = G i := by
  unfold cClr
  rw [(cClrH_v _ j).1 i h]
  unfold cChClr
  rw [fillM_ne _ _ _ _ (by omega), fillM_ne _ _ _ _ (by omega), fillM_ne _ _ _ _ (by omega), up_cell _ _ _ (by omega), up_cell _ _ _ (by omega), up_cell _ _ _ (by omega)]
theorem clN_ne (B : zM) {i : Nat} : ∀ n : Nat, (i < 8 ∨ 8 + 8 * n ≤ i) → clN B n i = B i
  | 0, _ => rfl
  | n + 1, h => by rw [clN, cClr_ne _ (by omega), clN_ne B n (by omega)]
theorem clN_at (B : zM) {j : Nat} {i : Nat} (hi : 8 + 8 * j ≤ i ∧ i < 8 + 8 * j + 8) : ∀ n : Nat, j < n → clN B n i = cClr (clN B j) j i
  | 0, h => by omega
  | n + 1, h => by
    by_cases e : j = n
    · rw [← e, clN]
    · rw [clN, cClr_ne _ (by omega), clN_at B hi n (by omega)]
theorem cntB_0 {P : Nat → Bool} : ∀ {n : Nat}, (∀ i, i < n → ¬ P i = true) → cntB P n = 0
  | 0, _ => rfl
  | n + 1, h => by rw [cntB_S, cntB_0 (fun i hi => h i (by omega)), bI_f (h n (by omega))]; rfl
theorem SeatC_new {G X : zM} {j : Nat} (hj : j < 7) (h0 : G (8 + 8 * j) 0 = (j : Int)) (h65 : X 65 (j : Int) = 0) (h66 : ∀ v : Int, 0 ≤ v → v < 100 → X 66 (100 * (j : Int) + v) = 0) (h67 : ∀ k : Int, 0 ≤ k → k < 20 → X 67 (20 * (j : Int) + k) = if k = 3 ∨ k = 5 then -1 else 0) (h68 : ∀ h : Int, 0 ≤ h → h < 6 → X 68 (12 * (j : Int) + 2 * h) = -1) : SeatC (cClr G j) X j := by
  unfold SeatC cClr
  obtain ⟨-, w1, w2, w3, w4, w5, w6, w7⟩ := cClrH_v (cChClr (fillM (up (up (up G (8 + 8 * j) 1 0) (8 + 8 * j) 2 0) (8 + 8 * j) 9 0) (8 + 8 * j + 6) 0 100 0) j) j
  have g : cChClr (fillM (up (up (up G (8 + 8 * j) 1 0) (8 + 8 * j) 2 0) (8 + 8 * j) 9 0) (8 + 8 * j + 6) 0 100 0) j (8 + 8 * j) = fun k => if k = 9 then 0 else if k = 2 then 0 else if k = 1 then 0 else G (8 + 8 * j) k := by
    unfold cChClr
    rw [fillM_ne _ _ _ _ (by omega), fillM_ne _ _ _ _ (by omega), fillM_ne _ _ _ _ (by omega), up_at, up_at, up_at]
  rw [w1, g, w4, w5, w6, h65]
  have g4 : ∀ h : Int, 0 ≤ h → h < 6 → cChClr (fillM (up (up (up G (8 + 8 * j) 1 0) (8 + 8 * j) 2 0) (8 + 8 * j) 9 0) (8 + 8 * j + 6) 0 100 0) j (8 + 8 * j + 4) h = -4 := fun h a b => by
    unfold cChClr
    rw [fillM_ne _ _ _ _ (by omega), fillM_at]
    simp only
    rw [if_pos (by omega)]
  have g5 : ∀ h : Int, 0 ≤ h → h < 6 → cChClr (fillM (up (up (up G (8 + 8 * j) 1 0) (8 + 8 * j) 2 0) (8 + 8 * j) 9 0) (8 + 8 * j + 6) 0 100 0) j (8 + 8 * j + 5) h = -4 := fun h a b => by
    unfold cChClr
    rw [fillM_at]
    simp only
    rw [if_pos (by omega)]
  have g6 : ∀ v : Int, 0 ≤ v → v < 100 → cChClr (fillM (up (up (up G (8 + 8 * j) 1 0) (8 + 8 * j) 2 0) (8 + 8 * j) 9 0) (8 + 8 * j + 6) 0 100 0) j (8 + 8 * j + 6) v = 0 := fun v a b => by
    unfold cChClr
    rw [fillM_ne _ _ _ _ (by omega), fillM_ne _ _ _ _ (by omega), fillM_at]
    simp only
    rw [if_pos (by omega)]
  have r : ∀ k : Int, 0 ≤ k → k < 20 → sR X j k = if k = 3 ∨ k = 5 then -1 else 0 := h67
  have d : ∀ h : Int, 0 ≤ h → h < 6 → sD X j (2 * h) = -1 := h68
  unfold SeatV
  rw [r 0 (by decide) (by decide), r 1 (by decide) (by decide), r 2 (by decide) (by decide), r 3 (by decide) (by decide), r 5 (by decide) (by decide), r 7 (by decide) (by decide), r 8 (by decide) (by decide), r 9 (by decide) (by decide), r 10 (by decide) (by decide), r 11 (by decide) (by decide), r 12 (by decide) (by decide), r 13 (by decide) (by decide)]
  simp only [Int.reduceEq, ↓reduceIte, or_self, or_false, or_true, false_or, true_or]
  refine ⟨⟨h0, trivial, trivial, trivial, trivial, trivial⟩, fun _ => ⟨trivial, trivial, trivial⟩, ?_, ⟨by rw [w2.1]; rfl, fun z => absurd z (by decide), fun _ => w2.2⟩, ⟨by rw [w3.1]; rfl, fun z => absurd z (by decide), fun _ => w3.2⟩, fun h a b => ?_, fun v a b => ?_, w7 0 (by decide) (by decide), w7 1 (by decide) (by decide), w7 2 (by decide) (by decide)⟩
  · refine (cntB_0 (fun i hi => ?_)).symm
    rw [decide_eq_true_eq]
    exact fun z => z (h66 (i : Int) (by omega) (by omega))
  · rw [g4 h a b, d h a b]
    exact ⟨rfl, fun z => absurd z (by decide), fun _ => g5 h a b⟩
  · rw [g6 v a b]
    exact (h66 v a b).symm
theorem nx_zero {X : zM} (h : X 64 7 = 0) (k : Int) : nx X k 0 = -1 := by
  unfold nx nxF
  rw [h]
  rfl
theorem Sim_seats {C X : zM} {u : Nat} {n : Int} (hS : Sim C X u) : Sim (clN (stsB C (X 64 1 + 1) n) 7) (reM X n) u := by
  obtain ⟨hP, h0, ht, hh⟩ := hS
  obtain ⟨s1, s2, s3, s4, s5⟩ := hP
  have z7 : reM X n 64 7 = 0 := by
    unfold reM anewM
    simp
  have b : ∀ i, (i < 8 ∨ 64 ≤ i) → clN (stsB C (X 64 1 + 1) n) 7 i = stsB C (X 64 1 + 1) n i := fun i h => clN_ne _ 7 (by omega)
  have o : ∀ i, i ≠ 0 → i ≠ 1 → i ≠ 2 → i ≠ 4 → i ≠ 5 → stsB C (X 64 1 + 1) n i = C i := fun i a1 a2 a3 a4 a5 => by
    unfold stsB ptClr
    rw [fillM_ne _ _ _ _ a5, fillM_ne _ _ _ _ a4, up_cell _ _ _ a3, up_cell _ _ _ a2, up_cell _ _ _ a1, up_cell _ _ _ a1]
  refine ⟨⟨?_, ?_, ?_, ?_, ?_⟩, ?_, ?_, ?_⟩
  · rw [b 2 (by omega), z7]
    unfold stsB ptClr
    rw [fillM_ne _ _ _ _ (by decide), fillM_ne _ _ _ _ (by decide), up_self]
  · rw [z7]
    omega
  · intro j hj
    rw [b 3 (by omega), o 3 (by decide) (by decide) (by decide) (by decide) (by decide)]
    exact s3 j hj
  · intro k a c
    rw [nx_zero z7, z7, b 4 (by omega), b 5 (by omega)]
    unfold stsB ptClr
    rw [fillM_at, fillM_ne _ _ _ _ (show (4 : Nat) ≠ 5 by decide), fillM_at]
    simp only
    rw [if_pos (by omega), if_pos (by omega)]
    exact ⟨rfl, rfl⟩
  · intro l hl
    rw [z7] at hl
    omega
  · rw [b 0 (by omega), b 1 (by omega)]
    unfold stsB ptClr
    refine ⟨?_, ?_, ?_⟩
    · rw [fillM_ne _ _ _ _ (by decide), fillM_ne _ _ _ _ (by decide), up_cell _ _ _ (by decide), up_cell _ _ _ (by decide), up_self]
      unfold reM anewM
      simp
    · rw [fillM_ne _ _ _ _ (by decide), fillM_ne _ _ _ _ (by decide), up_cell _ _ _ (by decide), up_cell _ _ _ (by decide)]
      unfold reM anewM up
      simp
    · rw [fillM_ne _ _ _ _ (by decide), fillM_ne _ _ _ _ (by decide), up_cell _ _ _ (by decide), up_self]
      unfold reM anewM up
      simp
  · intro j hj
    rw [b 7 (by omega), o 7 (by decide) (by decide) (by decide) (by decide) (by decide)]
    exact ht j hj
  · intro j hj
    have e : SeatC (clN (stsB C (X 64 1 + 1) n) 7) (reM X n) j = SeatC (cClr (clN (stsB C (X 64 1 + 1) n) j) j) (reM X n) j := by
      unfold SeatC
      rw [clN_at _ (j := j) (by omega) 7 hj, clN_at _ (j := j) (by omega) 7 hj, clN_at _ (j := j) (by omega) 7 hj, clN_at _ (j := j) (by omega) 7 hj, clN_at _ (j := j) (by omega) 7 hj, clN_at _ (j := j) (by omega) 7 hj, clN_at _ (j := j) (by omega) 7 hj]
    rw [e]
    refine SeatC_new hj ?_ ?_ (fun v a c => ?_) (fun k a c => ?_) (fun h a c => ?_)
    · rw [clN_ne _ j (by omega), o (8 + 8 * j) (by omega) (by omega) (by omega) (by omega) (by omega)]
      exact (hh j hj).1.1
    · unfold reM anewM
      simp only [Nat.reduceEqDiff, ↓reduceIte]
      rw [if_pos (by omega)]
    · unfold reM anewM
      simp only [Nat.reduceEqDiff, ↓reduceIte]
      rw [if_pos (by omega)]
    · unfold reM anewM
      simp only [Nat.reduceEqDiff, ↓reduceIte]
      rw [if_pos (by omega)]
      by_cases y : k = 3 ∨ k = 5
      · rw [if_pos (by omega), if_pos y]
      · rw [if_neg (by omega), if_neg y]
    · unfold reM anewM
      simp only [Nat.reduceEqDiff, ↓reduceIte]
      rw [if_pos (by omega)]
theorem sts_tab {C X : zM} {u : Nat} (hM : Sim C X u) (t n : Int) (k : Nat) {i : Nat} (hi : i < 7) : clN (stsB C t n) k 7 (i : Int) = ((8 + 8 * i : Nat) : Int) := by
  rw [clN_ne _ k (by omega)]
  unfold stsB ptClr
  rw [fillM_ne _ _ _ _ (by decide), fillM_ne _ _ _ _ (by decide), up_cell _ _ _ (by decide), up_cell _ _ _ (by decide), up_cell _ _ _ (by decide), up_cell _ _ _ (by decide)]
  exact hM.2.2.1 i hi
theorem ite_01 (p : Prop) [Decidable p] : (if p then (0 : Int) else 1) = bI (¬ p) := by
  unfold bI
  by_cases h : p
  · rw [if_pos h, if_neg (fun z => z h)]
  · rw [if_neg h, if_pos h]
