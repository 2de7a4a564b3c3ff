/-! ===== the class's memory C shows the reference's memory X; u letters made ===== -/
def nn (z : Int) : Int := if z < 0 then -4 else z
def SeatV (a m1 m2 vs rs hd tm r dc hl : Int → Int) (fl j : Int) : Prop :=
  (a 0 = j ∧ a 1 = fl ∧ a 2 = r 0 ∧ a 3 = r 1 ∧ a 4 = r 2 ∧ a 5 = r 7) ∧ (r 0 ≤ 5 → a 6 = r 8 ∧ a 7 = r 9 ∧ a 8 = r 10) ∧ a 9 = cntB (fun v => decide (hl (v : Int) ≠ 0)) 100 ∧
  (m1 0 = nn (r 3) ∧ (0 ≤ r 3 → m1 1 = r 4) ∧ (r 3 < 0 → m1 1 = -4)) ∧ (m2 0 = nn (r 5) ∧ (0 ≤ r 5 → m2 1 = r 6) ∧ (r 5 < 0 → m2 1 = -4)) ∧
  (∀ h : Int, 0 ≤ h → h < 6 → vs h = nn (dc (2 * h)) ∧ (0 ≤ dc (2 * h) → rs h = dc (2 * h + 1)) ∧ (dc (2 * h) < 0 → rs h = -4)) ∧
  (∀ v : Int, 0 ≤ v → v < 100 → hd v = hl v) ∧ (tm 0 = if r 11 = 1 then r 14 else -1) ∧ (tm 1 = if r 12 = 1 then r 15 else -1) ∧ (tm 2 = if r 13 = 1 then r 16 else -1)
abbrev sR (X : zM) (s : Int) : Int → Int := fun k => X 67 (20 * s + k)
abbrev sD (X : zM) (s : Int) : Int → Int := fun k => X 68 (12 * s + k)
abbrev sH (X : zM) (s : Int) : Int → Int := fun k => X 66 (100 * s + k)
def SeatC (C X : zM) (j : Nat) : Prop := SeatV (C (8 + 8 * j)) (C (8 + 8 * j + 1)) (C (8 + 8 * j + 2)) (C (8 + 8 * j + 4)) (C (8 + 8 * j + 5)) (C (8 + 8 * j + 6)) (C (8 + 8 * j + 7)) (sR X j) (sD X j) (sH X j) (X 65 (j : Int)) (j : Int)
def Sim (C X : zM) (u : Nat) : Prop := PostS C X u ∧ (C 0 4 = X 64 2 ∧ C 0 5 = X 64 1 ∧ C 1 0 = X 64 0) ∧ (∀ j : Nat, j < 7 → C 7 (j : Int) = ((8 + 8 * j : Nat) : Int)) ∧ ∀ j : Nat, j < 7 → SeatC C X j
theorem slotL_congr {X X' : zM} (h69 : X' 69 = X 69) (l : Nat) : slotL X' l = slotL X l := by
  unfold slotL
  rw [h69]
theorem nx_congr {X X' : zM} (h7 : X' 64 7 = X 64 7) (h69 : X' 69 = X 69) (k : Int) (i : Nat) : nx X' k i = nx X k i := by
  unfold nx nxF
  rw [h7]
  have : (fun l => decide (slotL X' l = k)) = fun l => decide (slotL X l = k) := funext fun l => by rw [slotL_congr h69]
  rw [this]
theorem PostS_congr {C C' X X' : zM} {u : Nat} (hS : PostS C X u) (hC : ∀ i, i = 2 ∨ i = 3 ∨ i = 4 ∨ i = 5 ∨ 71 ≤ i → C' i = C i) (h7 : X' 64 7 = X 64 7) (h69 : X' 69 = X 69) (h70 : X' 70 = X 70) : PostS C' X' u := by
  obtain ⟨s1, s2, s3, s4, s5⟩ := hS
  unfold PostS
  rw [hC 2 (by omega), hC 3 (by omega), hC 4 (by omega), hC 5 (by omega), h7]
  refine ⟨s1, s2, s3, fun k a b => ?_, fun l hl => ?_⟩
  · rw [nx_congr h7 h69, lsF_congr (fun l _ => slotL_congr h69 l)]
    exact s4 k a b
  · have q := s5 l hl
    unfold LetC at q ⊢
    rw [hC (71 + l) (by omega), h69, slotL_congr h69, nx_congr h7 h69]
    have : camP X' l = camP X l := by unfold camP; rw [h70]
    rw [this]
    exact q
theorem Sim_seat {C C' X X' : zM} {u j : Nat} (hS : Sim C X u) (hj : j < 7) (hC : ∀ i, i < 8 + 8 * j ∨ 8 + 8 * j + 8 ≤ i → C' i = C i) (h64 : X' 64 = X 64) (h65 : X' 65 = X 65) (h66 : X' 66 = X 66) (h67 : ∀ q : Int, ¬ (20 * (j : Int) ≤ q ∧ q < 20 * (j : Int) + 20) → X' 67 q = X 67 q) (h68 : ∀ q : Int, ¬ (12 * (j : Int) ≤ q ∧ q < 12 * (j : Int) + 12) → X' 68 q = X 68 q) (h69 : X' 69 = X 69) (h70 : X' 70 = X 70) (hs : SeatC C' X' j) : Sim C' X' u := by
  obtain ⟨hP, h0, ht, hh⟩ := hS
  refine ⟨PostS_congr hP (fun i hi => hC i (by omega)) (by rw [h64]) h69 h70, by rw [hC 0 (by omega), hC 1 (by omega), h64]; exact h0, fun k hk => by rw [hC 7 (by omega)]; exact ht k hk, fun k hk => ?_⟩
  by_cases e : k = j
  · rw [e]; exact hs
  · have q := hh k hk
    unfold SeatC at q ⊢
    rw [hC (8 + 8 * k) (by omega), hC (8 + 8 * k + 1) (by omega), hC (8 + 8 * k + 2) (by omega), hC (8 + 8 * k + 4) (by omega), hC (8 + 8 * k + 5) (by omega), hC (8 + 8 * k + 6) (by omega), hC (8 + 8 * k + 7) (by omega), h65]
    have e1 : sH X' k = sH X k := by unfold sH; rw [h66]
    have e2 : ∀ z : Int, 0 ≤ z → z < 12 → sD X' k z = sD X k z := fun z a b => h68 _ (by omega)
    have e3 : ∀ z : Int, 0 ≤ z → z < 20 → sR X' k z = sR X k z := fun z a b => h67 _ (by omega)
    rw [e1]
    unfold SeatV at q ⊢
    rw [e3 0 (by decide) (by decide), e3 1 (by decide) (by decide), e3 2 (by decide) (by decide), e3 3 (by decide) (by decide), e3 4 (by decide) (by decide), e3 5 (by decide) (by decide), e3 6 (by decide) (by decide), e3 7 (by decide) (by decide), e3 8 (by decide) (by decide), e3 9 (by decide) (by decide), e3 10 (by decide) (by decide), e3 11 (by decide) (by decide), e3 12 (by decide) (by decide), e3 13 (by decide) (by decide), e3 14 (by decide) (by decide), e3 15 (by decide) (by decide), e3 16 (by decide) (by decide)]
    refine ⟨q.1, q.2.1, q.2.2.1, q.2.2.2.1, q.2.2.2.2.1, fun h a b => ?_, q.2.2.2.2.2.2⟩
    rw [e2 (2 * h) (by omega) (by omega), e2 (2 * h + 1) (by omega) (by omega)]
    exact q.2.2.2.2.2.1 h a b
/-- the numbers of a seat alone -/
theorem Sim_s67 {C C' X : zM} {u j : Nat} {X' : zM} (hS : Sim C X u) (hj : j < 7) (hC : ∀ i, i < 8 + 8 * j ∨ 8 + 8 * j + 8 ≤ i → C' i = C i) (hc : ∀ i, i ≠ 67 → X' i = X i) (h67 : ∀ q : Int, ¬ (20 * (j : Int) ≤ q ∧ q < 20 * (j : Int) + 20) → X' 67 q = X 67 q) (hs : SeatC C' X' j) : Sim C' X' u :=
  Sim_seat hS hj hC (hc 64 (by decide)) (hc 65 (by decide)) (hc 66 (by decide)) h67 (fun q _ => by rw [hc 68 (by decide)]) (hc 69 (by decide)) (hc 70 (by decide)) hs
theorem sR_set (X : zM) (s k v : Int) : sR (setM X s k v) s = fun q => if q = k then v else sR X s q := by
  funext q
  unfold sR
  simp only [setM_at, q20]
theorem sD_set (X : zM) (s k v s' : Int) : sD (setM X s k v) s' = sD X s' := by unfold sD; rw [setM_cell _ _ _ _ (by decide)]
theorem sH_set (X : zM) (s k v s' : Int) : sH (setM X s k v) s' = sH X s' := by unfold sH; rw [setM_cell _ _ _ _ (by decide)]
theorem s65_set (X : zM) (s k v z : Int) : setM X s k v 65 z = X 65 z := by rw [setM_cell _ _ _ _ (by decide)]
theorem Sim_stale {C X : zM} {u j : Nat} (hS : Sim C X u) (hj : j < 7) : Sim (up C (8 + 8 * j) 5 1) (setM X j 7 1) u := by
  refine Sim_s67 hS hj (fun i h => up_cell _ _ _ (by omega)) (fun i h => setM_cell _ _ _ _ h) (fun q h => setM_ne _ _ _ _ _ (by omega)) ?_
  have q := hS.2.2.2 j hj
  unfold SeatC at q ⊢
  rw [up_at, up_cell _ _ _ (by omega), up_cell _ _ _ (by omega), up_cell _ _ _ (by omega), up_cell _ _ _ (by omega), up_cell _ _ _ (by omega), up_cell _ _ _ (by omega), sR_set, sD_set, sH_set, s65_set]
  unfold SeatV at q ⊢
  simp only [Int.reduceEq, ↓reduceIte]
  exact ⟨⟨q.1.1, q.1.2.1, q.1.2.2.1, q.1.2.2.2.1, q.1.2.2.2.2.1, trivial⟩, q.2⟩
theorem Sim_step {C X : zM} {u j : Nat} {v : Int} (hS : Sim C X u) (hj : j < 7) : Sim (up C (8 + 8 * j) 4 v) (setM X j 2 v) u := by
  refine Sim_s67 hS hj (fun i h => up_cell _ _ _ (by omega)) (fun i h => setM_cell _ _ _ _ h) (fun q h => setM_ne _ _ _ _ _ (by omega)) ?_
  have q := hS.2.2.2 j hj
  unfold SeatC at q ⊢
  rw [up_at, up_cell _ _ _ (by omega), up_cell _ _ _ (by omega), up_cell _ _ _ (by omega), up_cell _ _ _ (by omega), up_cell _ _ _ (by omega), up_cell _ _ _ (by omega), sR_set, sD_set, sH_set, s65_set]
  unfold SeatV at q ⊢
  simp only [Int.reduceEq, ↓reduceIte]
  exact ⟨⟨q.1.1, q.1.2.1, q.1.2.2.1, q.1.2.2.2.1, trivial, q.1.2.2.2.2.2⟩, q.2⟩
theorem Sim_f6 {C X : zM} {u j : Nat} (hS : Sim C X u) (hj : j < 7) : Sim (up C (8 + 8 * j) 6 1) (setM X j 8 1) u := by
  refine Sim_s67 hS hj (fun i h => up_cell _ _ _ (by omega)) (fun i h => setM_cell _ _ _ _ h) (fun q h => setM_ne _ _ _ _ _ (by omega)) ?_
  have q := hS.2.2.2 j hj
  unfold SeatC at q ⊢
  rw [up_at, up_cell _ _ _ (by omega), up_cell _ _ _ (by omega), up_cell _ _ _ (by omega), up_cell _ _ _ (by omega), up_cell _ _ _ (by omega), up_cell _ _ _ (by omega), sR_set, sD_set, sH_set, s65_set]
  unfold SeatV at q ⊢
  simp only [Int.reduceEq, ↓reduceIte]
  exact ⟨q.1, fun z => ⟨trivial, (q.2.1 z).2⟩, q.2.2⟩
theorem Sim_f7 {C X : zM} {u j : Nat} (hS : Sim C X u) (hj : j < 7) : Sim (up C (8 + 8 * j) 7 1) (setM X j 9 1) u := by
  refine Sim_s67 hS hj (fun i h => up_cell _ _ _ (by omega)) (fun i h => setM_cell _ _ _ _ h) (fun q h => setM_ne _ _ _ _ _ (by omega)) ?_
  have q := hS.2.2.2 j hj
  unfold SeatC at q ⊢
  rw [up_at, up_cell _ _ _ (by omega), up_cell _ _ _ (by omega), up_cell _ _ _ (by omega), up_cell _ _ _ (by omega), up_cell _ _ _ (by omega), up_cell _ _ _ (by omega), sR_set, sD_set, sH_set, s65_set]
  unfold SeatV at q ⊢
  simp only [Int.reduceEq, ↓reduceIte]
  exact ⟨q.1, fun z => ⟨(q.2.1 z).1, trivial, (q.2.1 z).2.2⟩, q.2.2⟩
theorem Sim_f8 {C X : zM} {u j : Nat} (hS : Sim C X u) (hj : j < 7) : Sim (up C (8 + 8 * j) 8 1) (setM X j 10 1) u := by
  refine Sim_s67 hS hj (fun i h => up_cell _ _ _ (by omega)) (fun i h => setM_cell _ _ _ _ h) (fun q h => setM_ne _ _ _ _ _ (by omega)) ?_
  have q := hS.2.2.2 j hj
  unfold SeatC at q ⊢
  rw [up_at, up_cell _ _ _ (by omega), up_cell _ _ _ (by omega), up_cell _ _ _ (by omega), up_cell _ _ _ (by omega), up_cell _ _ _ (by omega), up_cell _ _ _ (by omega), sR_set, sD_set, sH_set, s65_set]
  unfold SeatV at q ⊢
  simp only [Int.reduceEq, ↓reduceIte]
  exact ⟨q.1, fun z => ⟨(q.2.1 z).1, (q.2.1 z).2.1, trivial⟩, q.2.2⟩
theorem Sim_tick {C X : zM} {u j : Nat} {v : Int} (hS : Sim C X u) (hj : j < 7) : Sim C (setM X j 19 v) u := by
  refine Sim_s67 hS hj (fun i h => rfl) (fun i h => setM_cell _ _ _ _ h) (fun q h => setM_ne _ _ _ _ _ (by omega)) ?_
  have q := hS.2.2.2 j hj
  unfold SeatC at q ⊢
  rw [sR_set, sD_set, sH_set, s65_set]
  unfold SeatV at q ⊢
  simp only [Int.reduceEq, ↓reduceIte]
  exact q
theorem Sim_lock {C X : zM} {u j : Nat} {v r : Int} (hS : Sim C X u) (hj : j < 7) (hv : 0 ≤ v) : Sim (up (up C (8 + 8 * j + 1) 0 v) (8 + 8 * j + 1) 1 r) (setM (setM X j 3 v) j 4 r) u := by
  refine Sim_s67 hS hj (fun i h => by rw [up_cell _ _ _ (by omega), up_cell _ _ _ (by omega)]) (fun i h => by rw [setM_cell _ _ _ _ h, setM_cell _ _ _ _ h]) (fun q h => by rw [setM_ne _ _ _ _ _ (by omega), setM_ne _ _ _ _ _ (by omega)]) ?_
  have q := hS.2.2.2 j hj
  unfold SeatC at q ⊢
  rw [up_at, up_at, up_cell _ _ _ (by omega), up_cell _ _ _ (by omega), up_cell _ _ _ (by omega), up_cell _ _ _ (by omega), up_cell _ _ _ (by omega), up_cell _ _ _ (by omega), up_cell _ _ _ (by omega), up_cell _ _ _ (by omega), up_cell _ _ _ (by omega), up_cell _ _ _ (by omega), up_cell _ _ _ (by omega), up_cell _ _ _ (by omega), sR_set, sR_set, sD_set, sD_set, sH_set, sH_set, s65_set, s65_set]
  unfold SeatV at q ⊢
  simp only [Int.reduceEq, ↓reduceIte]
  exact ⟨q.1, q.2.1, q.2.2.1, ⟨by unfold nn; rw [if_neg (by omega)], fun _ => trivial, fun z => by omega⟩, q.2.2.2.2⟩
theorem Sim_valid {C X : zM} {u j : Nat} {v r : Int} (hS : Sim C X u) (hj : j < 7) (hv : 0 ≤ v) : Sim (up (up C (8 + 8 * j + 2) 0 v) (8 + 8 * j + 2) 1 r) (setM (setM X j 5 v) j 6 r) u := by
  refine Sim_s67 hS hj (fun i h => by rw [up_cell _ _ _ (by omega), up_cell _ _ _ (by omega)]) (fun i h => by rw [setM_cell _ _ _ _ h, setM_cell _ _ _ _ h]) (fun q h => by rw [setM_ne _ _ _ _ _ (by omega), setM_ne _ _ _ _ _ (by omega)]) ?_
  have q := hS.2.2.2 j hj
  unfold SeatC at q ⊢
  rw [up_at, up_at, up_cell _ _ _ (by omega), up_cell _ _ _ (by omega), up_cell _ _ _ (by omega), up_cell _ _ _ (by omega), up_cell _ _ _ (by omega), up_cell _ _ _ (by omega), up_cell _ _ _ (by omega), up_cell _ _ _ (by omega), up_cell _ _ _ (by omega), up_cell _ _ _ (by omega), up_cell _ _ _ (by omega), up_cell _ _ _ (by omega), sR_set, sR_set, sD_set, sD_set, sH_set, sH_set, s65_set, s65_set]
  unfold SeatV at q ⊢
  simp only [Int.reduceEq, ↓reduceIte]
  exact ⟨q.1, q.2.1, q.2.2.1, q.2.2.2.1, ⟨by unfold nn; rw [if_neg (by omega)], fun _ => trivial, fun z => by omega⟩, q.2.2.2.2.2⟩
theorem Sim_enter {C X : zM} {u j : Nat} {r : Int} (hS : Sim C X u) (hj : j < 7) : Sim (cEnter C j r) (enterM X j r) u := by
  unfold cEnter enterM
  refine Sim_s67 hS hj (fun i h => by rw [up_cell _ _ _ (by omega), up_cell _ _ _ (by omega), up_cell _ _ _ (by omega), up_cell _ _ _ (by omega), up_cell _ _ _ (by omega)]) (fun i h => by rw [setM_cell _ _ _ _ h, setM_cell _ _ _ _ h, setM_cell _ _ _ _ h, setM_cell _ _ _ _ h, setM_cell _ _ _ _ h]) (fun q h => by rw [setM_ne _ _ _ _ _ (by omega), setM_ne _ _ _ _ _ (by omega), setM_ne _ _ _ _ _ (by omega), setM_ne _ _ _ _ _ (by omega), setM_ne _ _ _ _ _ (by omega)]) ?_
  have q := hS.2.2.2 j hj
  unfold SeatC at q ⊢
  have e : ∀ i, i ≠ 8 + 8 * j → up (up (up (up (up C (8 + 8 * j) 3 r) (8 + 8 * j) 4 0) (8 + 8 * j) 6 0) (8 + 8 * j) 7 0) (8 + 8 * j) 8 0 i = C i := fun i h => by rw [up_cell _ _ _ h, up_cell _ _ _ h, up_cell _ _ _ h, up_cell _ _ _ h, up_cell _ _ _ h]
  rw [e (8 + 8 * j + 1) (by omega), e (8 + 8 * j + 2) (by omega), e (8 + 8 * j + 4) (by omega), e (8 + 8 * j + 5) (by omega), e (8 + 8 * j + 6) (by omega), e (8 + 8 * j + 7) (by omega), up_at, up_at, up_at, up_at, up_at, sR_set, sR_set, sR_set, sR_set, sR_set, sD_set, sD_set, sD_set, sD_set, sD_set, sH_set, sH_set, sH_set, sH_set, sH_set, s65_set, s65_set, s65_set, s65_set, s65_set]
  unfold SeatV at q ⊢
  simp only [Int.reduceEq, ↓reduceIte]
  exact ⟨⟨q.1.1, q.1.2.1, q.1.2.2.1, trivial, trivial, q.1.2.2.2.2.2⟩, fun _ => ⟨trivial, trivial, trivial⟩, q.2.2⟩
theorem Sim_timer {C X : zM} {u j : Nat} {k : Int} (hS : Sim C X u) (hj : j < 7) (hk : 0 ≤ k ∧ k < 3) : Sim (up C (8 + 8 * j + 7) k (cMom C j)) (setTimerM X j k) u := by
  have q := hS.2.2.2 j hj
  have hm : cMom C j = 10 * setM X j (11 + k) 1 67 (20 * (j : Int) + 0) + setM X j (11 + k) 1 67 (20 * (j : Int) + 1) := by
    unfold cMom
    unfold SeatC SeatV at q
    rw [setM_ne _ _ _ _ _ (by omega), setM_ne _ _ _ _ _ (by omega), q.1.2.2.1, q.1.2.2.2.1]
    show X 67 (20 * (j : Int) + 0) * 10 + X 67 (20 * (j : Int) + 1) = _
    omega
  rw [hm]
  unfold setTimerM
  generalize 10 * setM X j (11 + k) 1 67 (20 * (j : Int) + 0) + setM X j (11 + k) 1 67 (20 * (j : Int) + 1) = z
  refine Sim_s67 hS hj (fun i h => up_cell _ _ _ (by omega)) (fun i h => by rw [setM_cell _ _ _ _ h, setM_cell _ _ _ _ h]) (fun q h => by rw [setM_ne _ _ _ _ _ (by omega), setM_ne _ _ _ _ _ (by omega)]) ?_
  unfold SeatC at q ⊢
  rw [up_at, up_cell _ _ _ (by omega), up_cell _ _ _ (by omega), up_cell _ _ _ (by omega), up_cell _ _ _ (by omega), up_cell _ _ _ (by omega), up_cell _ _ _ (by omega), sR_set, sR_set, sD_set, sD_set, sH_set, sH_set, s65_set, s65_set]
  unfold SeatV at q ⊢
  obtain ⟨q1, q2, q3, q4, q5, q6, q7, q8, q9, q10⟩ := q
  rcases (show k = 0 ∨ k = 1 ∨ k = 2 by omega) with rfl | rfl | rfl
  · simp only [Int.reduceAdd, Int.reduceEq, ↓reduceIte]
    exact ⟨q1, q2, q3, q4, q5, q6, q7, trivial, q9, q10⟩
  · simp only [Int.reduceAdd, Int.reduceEq, ↓reduceIte]
    exact ⟨q1, q2, q3, q4, q5, q6, q7, q8, trivial, q10⟩
  · simp only [Int.reduceAdd, Int.reduceEq, ↓reduceIte]
    exact ⟨q1, q2, q3, q4, q5, q6, q7, q8, q9, trivial⟩
theorem Sim_uns {C X : zM} {u j : Nat} {k : Int} (hS : Sim C X u) (hj : j < 7) (hk : 0 ≤ k ∧ k < 3) : Sim (cUns C j k) (setM X j (11 + k) 0) u := by
  have q := hS.2.2.2 j hj
  have e : cUns C j k = up C (8 + 8 * j + 7) k (-1) := by
    unfold cUns
    split
    · rename_i h
      funext i z
      unfold up
      by_cases y : i = 8 + 8 * j + 7 ∧ z = k
      · rw [if_pos y, y.1, y.2]; exact h
      · rw [if_neg y]
    · rfl
  rw [e]
  refine Sim_s67 hS hj (fun i h => up_cell _ _ _ (by omega)) (fun i h => setM_cell _ _ _ _ h) (fun q h => setM_ne _ _ _ _ _ (by omega)) ?_
  unfold SeatC at q ⊢
  rw [up_at, up_cell _ _ _ (by omega), up_cell _ _ _ (by omega), up_cell _ _ _ (by omega), up_cell _ _ _ (by omega), up_cell _ _ _ (by omega), up_cell _ _ _ (by omega), sR_set, sD_set, sH_set, s65_set]
  unfold SeatV at q ⊢
  obtain ⟨q1, q2, q3, q4, q5, q6, q7, q8, q9, q10⟩ := q
  rcases (show k = 0 ∨ k = 1 ∨ k = 2 by omega) with rfl | rfl | rfl
  · simp only [Int.reduceAdd, Int.reduceEq, ↓reduceIte]
    exact ⟨q1, q2, q3, q4, q5, q6, q7, trivial, q9, q10⟩
  · simp only [Int.reduceAdd, Int.reduceEq, ↓reduceIte]
    exact ⟨q1, q2, q3, q4, q5, q6, q7, q8, trivial, q10⟩
  · simp only [Int.reduceAdd, Int.reduceEq, ↓reduceIte]
    exact ⟨q1, q2, q3, q4, q5, q6, q7, q8, q9, trivial⟩
/-- a letter sent: the seats stay -/
theorem Sim_send {C C' X : zM} {u u' : Nat} {x kd h r v vr own : Int} (hS : Sim C X u) (hP : PostS C' (sendsM X x kd h r v vr own) u') (hC : ∀ i, i < 64 → i ≠ 2 → i ≠ 3 → i ≠ 4 → i ≠ 5 → C' i = C i) : Sim C' (sendsM X x kd h r v vr own) u' := by
  obtain ⟨-, h0, ht, hh⟩ := hS
  have e0 : ∀ k, k ≠ 7 → sendsM X x kd h r v vr own 64 k = X 64 k := fun k hk => by rw [sendsM_64, if_neg hk]
  refine ⟨hP, by rw [hC 0 (by omega) (by omega) (by omega) (by omega) (by omega), hC 1 (by omega) (by omega) (by omega) (by omega) (by omega), e0 2 (by decide), e0 1 (by decide), e0 0 (by decide)]; exact h0, fun k hk => by rw [hC 7 (by omega) (by omega) (by omega) (by omega) (by omega)]; exact ht k hk, fun k hk => ?_⟩
  have q := hh k hk
  unfold SeatC at q ⊢
  have g : ∀ o, o < 8 → C' (8 + 8 * k + o) = C (8 + 8 * k + o) := fun o ho => hC _ (by omega) (by omega) (by omega) (by omega) (by omega)
  have e1 : sR (sendsM X x kd h r v vr own) k = sR X k := by unfold sR; rw [sendsM_67]
  have e2 : sD (sendsM X x kd h r v vr own) k = sD X k := by unfold sD; rw [sendsM_oth _ _ _ _ _ _ _ _ (by decide) (by decide) (by decide)]
  have e3 : sH (sendsM X x kd h r v vr own) k = sH X k := by unfold sH; rw [sendsM_oth _ _ _ _ _ _ _ _ (by decide) (by decide) (by decide)]
  rw [show C' (8 + 8 * k) = C (8 + 8 * k) from g 0 (by omega), g 1 (by omega), g 2 (by omega), g 4 (by omega), g 5 (by omega), g 6 (by omega), g 7 (by omega), e1, e2, e3, sendsM_oth _ _ _ _ _ _ _ _ (by decide) (by decide) (by decide)]
  exact q
