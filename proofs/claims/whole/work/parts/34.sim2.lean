/-! ===== a height decided; a letter that comes ===== -/
def clrF (X : zM) (s : Int) : zM := setM (setM (setM X s 8 0) s 9 0) s 10 0
theorem clrF_cell (X : zM) (s : Int) {i : Nat} (h : i ≠ 67) : clrF X s i = X i := by
  unfold clrF
  rw [setM_cell _ _ _ _ h, setM_cell _ _ _ _ h, setM_cell _ _ _ _ h]
theorem clrF_ne (X : zM) (s j : Int) (h : j ≠ 20 * s + 8 ∧ j ≠ 20 * s + 9 ∧ j ≠ 20 * s + 10) : clrF X s 67 j = X 67 j := by
  unfold clrF
  rw [setM_ne _ _ _ _ _ h.2.2, setM_ne _ _ _ _ _ h.2.1, setM_ne _ _ _ _ _ h.1]
theorem enterM_clr (X : zM) (s r : Int) : enterM (clrF X s) s r = enterM X s r := by
  funext i j
  by_cases h : i = 67
  · subst h
    unfold enterM
    simp only [setM_at]
    by_cases a : j = 20 * s + 10
    · simp only [a, ↓reduceIte]
    · by_cases b : j = 20 * s + 9
      · simp only [b, ↓reduceIte]
      · by_cases c : j = 20 * s + 8
        · simp only [c, ↓reduceIte]
        · rw [clrF_ne _ _ _ ⟨c, b, a⟩]
  · unfold enterM
    rw [setM_cell _ _ _ _ h, setM_cell _ _ _ _ h, setM_cell _ _ _ _ h, setM_cell _ _ _ _ h, setM_cell _ _ _ _ h, setM_cell _ _ _ _ h, setM_cell _ _ _ _ h, setM_cell _ _ _ _ h, setM_cell _ _ _ _ h, setM_cell _ _ _ _ h, clrF_cell _ _ h]
theorem startsM_clr (X : zM) (s : Int) : startsM (clrF X s) s 0 = startsM X s 0 := by
  unfold startsM
  rw [if_neg (show ¬ (9 : Int) < 0 by decide), if_neg (show ¬ (9 : Int) < 0 by decide), enterM_clr]
theorem Inv_clr {X : zM} {s : Int} (hI : Inv X) (h0 : 0 ≤ s ∧ s < 7) : Nx X (clrF X s) := by
  have q := (hI.2.2.2.2.1 s h0.1 h0.2).1
  refine Nx_s67 hI h0 (fun i h => clrF_cell _ _ h) (fun j h => clrF_ne _ _ _ ⟨by omega, by omega, by omega⟩) (clrF_ne _ _ _ ⟨by omega, by omega, by omega⟩) ?_
  unfold clrF
  unfold SeatI at q ⊢
  rw [s65_set, s65_set, s65_set]
  obtain ⟨q1, q2, q3, q4, q5, q6, q7, q8, q9, q10, q11, q12, q13, q14, q15, q16, q17, q18, q19⟩ := q
  simp only [setM_at, q20, Int.reduceEq, ↓reduceIte]
  exact ⟨q1, q2, q3, q4, q5, q6, q7, q8, q9, Or.inl trivial, Or.inl trivial, Or.inl trivial, q13, q14, q15, q16, q17, q18, q19⟩
theorem tmN_c2 (M : zM) (s : Int) {i : Nat} (h : i ≠ 67) : ∀ k : Nat, tmN M s k i = M i
  | 0 => rfl
  | k + 1 => by rw [tmN, setM_cell _ _ _ _ h, tmN_c2 M s h k]
theorem Sim_clr {C X : zM} {u j : Nat} (hS : Sim C (clrF X j) u) (hj : j < 7) (h : 5 < X 67 (20 * (j : Int) + 0)) : Sim C X u := by
  refine Sim_s67 hS hj (fun i h => rfl) (fun i h => (clrF_cell _ _ h).symm) (fun q h => (clrF_ne _ _ _ ⟨by omega, by omega, by omega⟩).symm) ?_
  have q := hS.2.2.2 j hj
  have e : ∀ k : Int, k ≠ 8 → k ≠ 9 → k ≠ 10 → sR (clrF X j) j k = sR X j k := fun k a b c => clrF_ne _ _ _ ⟨by omega, by omega, by omega⟩
  have e2 : sD (clrF X j) j = sD X j := by unfold sD; rw [clrF_cell _ _ (by decide)]
  have e3 : sH (clrF X j) j = sH X j := by unfold sH; rw [clrF_cell _ _ (by decide)]
  unfold SeatC at q ⊢
  rw [e2, e3, clrF_cell _ _ (by decide)] at q
  unfold SeatV at q ⊢
  rw [e 0 (by decide) (by decide) (by decide), e 1 (by decide) (by decide) (by decide), e 2 (by decide) (by decide) (by decide), e 3 (by decide) (by decide) (by decide), e 4 (by decide) (by decide) (by decide), e 5 (by decide) (by decide) (by decide), e 6 (by decide) (by decide) (by decide), e 7 (by decide) (by decide) (by decide), e 11 (by decide) (by decide) (by decide), e 12 (by decide) (by decide) (by decide), e 13 (by decide) (by decide) (by decide), e 14 (by decide) (by decide) (by decide), e 15 (by decide) (by decide) (by decide), e 16 (by decide) (by decide) (by decide)] at q
  exact ⟨q.1, fun z => absurd h (by show ¬ 5 < sR X j 0; omega), q.2.2⟩
theorem fillM_at (M : zM) (c : Nat) (a : Int) (n : Nat) (v : Int) : fillM M c a n v c = fun k => if a ≤ k ∧ k < a + (n : Int) then v else M c k := by
  funext k
  unfold fillM
  simp
theorem fillM_ne (M : zM) {c i : Nat} (a : Int) (n : Nat) (v : Int) (h : i ≠ c) : fillM M c a n v i = M i := by
  funext k
  unfold fillM
  rw [if_neg (fun q => h q.1)]
theorem cMark_ne (G : zM) {i i' : Nat} (h : i' ≠ i) : cMark G i i' = G i' := by
  unfold cMark
  rw [up_cell _ _ _ h, up_cell _ _ _ h]
theorem cMark_at (G : zM) (i : Nat) : cMark G i i 0 = -4 ∧ cMark G i i 1 = -4 := by
  unfold cMark up
  simp
theorem cEnter_ne (G : zM) {j i : Nat} (r : Int) (h : i ≠ 8 + 8 * j) : cEnter G j r i = G i := by
  unfold cEnter
  rw [up_cell _ _ _ h, up_cell _ _ _ h, up_cell _ _ _ h, up_cell _ _ _ h, up_cell _ _ _ h]
theorem cEnter_at (G : zM) (j : Nat) (r : Int) : cEnter G j r (8 + 8 * j) = fun k => if k = 8 then 0 else if k = 7 then 0 else if k = 6 then 0 else if k = 4 then 0 else if k = 3 then r else G (8 + 8 * j) k := by
  funext k
  unfold cEnter up
  simp only [true_and]
/-- what clearing for a new height makes of a seat -/
theorem cClrH_v (G : zM) (j : Nat) : (∀ i, i < 8 + 8 * j ∨ 8 + 8 * j + 8 ≤ i → cClrH G j i = G i) ∧ cClrH G j (8 + 8 * j) = (fun k => if k = 8 then 0 else if k = 7 then 0 else if k = 6 then 0 else if k = 4 then 0 else if k = 3 then 0 else if k = 5 then 0 else G (8 + 8 * j) k) ∧
    (cClrH G j (8 + 8 * j + 1) 0 = -4 ∧ cClrH G j (8 + 8 * j + 1) 1 = -4) ∧ (cClrH G j (8 + 8 * j + 2) 0 = -4 ∧ cClrH G j (8 + 8 * j + 2) 1 = -4) ∧ cClrH G j (8 + 8 * j + 4) = G (8 + 8 * j + 4) ∧ cClrH G j (8 + 8 * j + 5) = G (8 + 8 * j + 5) ∧ cClrH G j (8 + 8 * j + 6) = G (8 + 8 * j + 6) ∧ (∀ k : Int, 0 ≤ k → k < 3 → cClrH G j (8 + 8 * j + 7) k = -1) := by
  unfold cClrH
  refine ⟨fun i h => ?_, ?_, ?_, ?_, ?_, ?_, ?_, fun k a b => ?_⟩
  · rw [cEnter_ne _ _ (by omega), fillM_ne _ _ _ _ (by omega), cMark_ne _ (by omega), cMark_ne _ (by omega), up_cell _ _ _ (by omega)]
  · rw [cEnter_at, fillM_ne _ _ _ _ (by omega), cMark_ne _ (by omega), cMark_ne _ (by omega), up_at]
  · rw [cEnter_ne _ _ (by omega), fillM_ne _ _ _ _ (by omega), cMark_ne _ (by omega)]; exact cMark_at _ _
  · rw [cEnter_ne _ _ (by omega), fillM_ne _ _ _ _ (by omega)]; exact cMark_at _ _
  · rw [cEnter_ne _ _ (by omega), fillM_ne _ _ _ _ (by omega), cMark_ne _ (by omega), cMark_ne _ (by omega), up_cell _ _ _ (by omega)]
  · rw [cEnter_ne _ _ (by omega), fillM_ne _ _ _ _ (by omega), cMark_ne _ (by omega), cMark_ne _ (by omega), up_cell _ _ _ (by omega)]
  · rw [cEnter_ne _ _ (by omega), fillM_ne _ _ _ _ (by omega), cMark_ne _ (by omega), cMark_ne _ (by omega), up_cell _ _ _ (by omega)]
  · rw [cEnter_ne _ _ (by omega), fillM_at]
    simp only
    rw [if_pos (by omega)]
theorem endM_o (X : zM) (s r v : Int) {i : Nat} (h : i ≠ 67) (h8 : i ≠ 68) : endM X s r v i = X i := by
  unfold endM
  rw [setM_cell _ _ _ _ h, setM_cell _ _ _ _ h, tmN_c2 _ _ h, setM_cell _ _ _ _ h, setM_cell _ _ _ _ h, setM_cell _ _ _ _ h, setM_cell _ _ _ _ h, up_cell _ _ _ h8, up_cell _ _ _ h8]
theorem endM_at68 (X : zM) (s r v : Int) (j : Int) : endM X s r v 68 j = if j = 12 * s + 2 * X 67 (20 * s + 0) + 1 then r else if j = 12 * s + 2 * X 67 (20 * s + 0) then v else X 68 j := by
  unfold endM
  rw [setM_cell _ _ _ _ (by decide), setM_cell _ _ _ _ (by decide), tmN_c2 _ _ (by decide), setM_cell _ _ _ _ (by decide), setM_cell _ _ _ _ (by decide), setM_cell _ _ _ _ (by decide), setM_cell _ _ _ _ (by decide), up_at, up_at]
theorem endM_67 (X : zM) (s r v : Int) (k : Int) : endM X s r v 67 (20 * s + k) = if k = 2 then 0 else if k = 1 then 0 else if k = 13 then 0 else if k = 12 then 0 else if k = 11 then 0 else if k = 7 then 0 else if k = 5 then -1 else if k = 3 then -1 else if k = 0 then X 67 (20 * s + 0) + 1 else X 67 (20 * s + k) := by
  unfold endM
  simp only [setM_at, q20, tmN, show ((0 : Nat) : Int) = 0 from rfl, show ((1 : Nat) : Int) = 1 from rfl, show ((2 : Nat) : Int) = 2 from rfl, Int.reduceAdd]
  rfl
theorem endM_far (X : zM) (s r v : Int) (q : Int) (h : ¬ (20 * s ≤ q ∧ q < 20 * s + 20)) : endM X s r v 67 q = X 67 q := by
  have e : q = 20 * s + (q - 20 * s) := by omega
  rw [e, endM_67, if_neg (by omega), if_neg (by omega), if_neg (by omega), if_neg (by omega), if_neg (by omega), if_neg (by omega), if_neg (by omega), if_neg (by omega), if_neg (by omega)]
theorem Sim_dec {C X : zM} {u j : Nat} {v r : Int} (hS : Sim C X u) (hj : j < 7) (hh : 0 ≤ X 67 (20 * (j : Int) + 0) ∧ X 67 (20 * (j : Int) + 0) ≤ 5) (hv : 0 ≤ v) : Sim (cDec C j v r) (clrF (endM X j r v) j) u := by
  have q := hS.2.2.2 j hj
  have hH : C (8 + 8 * j) 2 = X 67 (20 * (j : Int) + 0) := q.1.2.2.1
  unfold cDec
  rw [hH]
  obtain ⟨w0, w1, w2, w3, w4, w5, w6, w7⟩ := cClrH_v (up (cAdd C j (X 67 (20 * (j : Int) + 0)) v r) (8 + 8 * j) 2 (X 67 (20 * (j : Int) + 0) + 1)) j
  refine Sim_seat hS hj (fun i h => ?_) ?_ ?_ ?_ (fun q h => ?_) (fun q h => ?_) ?_ ?_ ?_
  · rw [w0 i h, up_cell _ _ _ (by omega)]
    unfold cAdd
    rw [up_cell _ _ _ (by omega), up_cell _ _ _ (by omega)]
  · rw [clrF_cell _ _ (by decide), endM_o _ _ _ _ (by decide) (by decide)]
  · rw [clrF_cell _ _ (by decide), endM_o _ _ _ _ (by decide) (by decide)]
  · rw [clrF_cell _ _ (by decide), endM_o _ _ _ _ (by decide) (by decide)]
  · rw [clrF_ne _ _ _ ⟨by omega, by omega, by omega⟩, endM_far _ _ _ _ _ h]
  · rw [clrF_cell _ _ (by decide), endM_at68, if_neg (by omega), if_neg (by omega)]
  · rw [clrF_cell _ _ (by decide), endM_o _ _ _ _ (by decide) (by decide)]
  · rw [clrF_cell _ _ (by decide), endM_o _ _ _ _ (by decide) (by decide)]
  · have e : sR (clrF (endM X j r v) j) j = fun k => if k = 10 then 0 else if k = 9 then 0 else if k = 8 then 0 else if k = 2 then 0 else if k = 1 then 0 else if k = 13 then 0 else if k = 12 then 0 else if k = 11 then 0 else if k = 7 then 0 else if k = 5 then -1 else if k = 3 then -1 else if k = 0 then sR X j 0 + 1 else sR X j k := by
      funext k
      unfold clrF sR
      simp only [setM_at, q20, endM_67]
    have e2 : sD (clrF (endM X j r v) j) j = fun k => if k = 2 * X 67 (20 * (j : Int) + 0) + 1 then r else if k = 2 * X 67 (20 * (j : Int) + 0) then v else sD X j k := by
      funext k
      unfold sD
      rw [clrF_cell _ _ (by decide), endM_at68]
      by_cases a : k = 2 * X 67 (20 * (j : Int) + 0) + 1
      · rw [if_pos a, if_pos (by omega)]
      · rw [if_neg a, if_neg (by omega)]
        by_cases b : k = 2 * X 67 (20 * (j : Int) + 0)
        · rw [if_pos b, if_pos (by omega)]
        · rw [if_neg b, if_neg (by omega)]
    have e3 : sH (clrF (endM X j r v) j) j = sH X j := by unfold sH; rw [clrF_cell _ _ (by decide), endM_o _ _ _ _ (by decide) (by decide)]
    have a4 : up (cAdd C j (X 67 (20 * (j : Int) + 0)) v r) (8 + 8 * j) 2 (X 67 (20 * (j : Int) + 0) + 1) (8 + 8 * j + 4) = fun k => if k = X 67 (20 * (j : Int) + 0) then v else C (8 + 8 * j + 4) k := by
      unfold cAdd
      rw [up_cell _ _ _ (by omega), up_cell _ _ _ (by omega), up_at]
    have a5 : up (cAdd C j (X 67 (20 * (j : Int) + 0)) v r) (8 + 8 * j) 2 (X 67 (20 * (j : Int) + 0) + 1) (8 + 8 * j + 5) = fun k => if k = X 67 (20 * (j : Int) + 0) then r else C (8 + 8 * j + 5) k := by
      unfold cAdd
      rw [up_cell _ _ _ (by omega), up_at, up_cell _ _ _ (by omega)]
    have a6 : up (cAdd C j (X 67 (20 * (j : Int) + 0)) v r) (8 + 8 * j) 2 (X 67 (20 * (j : Int) + 0) + 1) (8 + 8 * j + 6) = C (8 + 8 * j + 6) := by
      unfold cAdd
      rw [up_cell _ _ _ (by omega), up_cell _ _ _ (by omega), up_cell _ _ _ (by omega)]
    have a0 : up (cAdd C j (X 67 (20 * (j : Int) + 0)) v r) (8 + 8 * j) 2 (X 67 (20 * (j : Int) + 0) + 1) (8 + 8 * j) = fun k => if k = 2 then X 67 (20 * (j : Int) + 0) + 1 else C (8 + 8 * j) k := by
      unfold cAdd
      rw [up_at, up_cell _ _ _ (by omega), up_cell _ _ _ (by omega)]
    unfold SeatC at q ⊢
    rw [w1, w4, w5, w6, a4, a5, a6, a0, e, e2, e3, clrF_cell _ _ (by decide), endM_o _ _ _ _ (by decide) (by decide)]
    unfold SeatV at q ⊢
    obtain ⟨q1, q2, q3, q4, q5, q6, q7, q8, q9, q10⟩ := q
    simp only [Int.reduceEq, ↓reduceIte]
    refine ⟨⟨q1.1, q1.2.1, trivial, trivial, trivial, trivial⟩, fun _ => ⟨trivial, trivial, trivial⟩, q3, ⟨w2.1, fun z => absurd z (by decide), fun _ => w2.2⟩, ⟨w3.1, fun z => absurd z (by decide), fun _ => w3.2⟩, fun h a b => ?_, q7, ?_, ?_, ?_⟩
    · have z := q6 h a b
      by_cases y : h = X 67 (20 * (j : Int) + 0)
      · rw [if_pos y, if_pos y, if_neg (by omega), if_pos (by omega), if_pos (by omega)]
        exact ⟨by unfold nn; rw [if_neg (by omega)], fun _ => rfl, fun g => by omega⟩
      · rw [if_neg y, if_neg y, if_neg (by omega), if_neg (by omega), if_neg (by omega), if_neg (by omega)]
        exact z
    · exact w7 0 (by decide) (by decide)
    · exact w7 1 (by decide) (by decide)
    · exact w7 2 (by decide) (by decide)
theorem PostS_reach {C X : zM} {u y : Nat} {x : Int} (hS : PostS C X u) (hy : (y : Int) < X 64 7) (hx : 0 ≤ x ∧ x < 7) : PostS (up C (71 + y) 6 (orS (C (71 + y) 6) x)) (up X 70 (7 * (y : Int) + x) 1) u := by
  obtain ⟨s1, s2, s3, s4, s5⟩ := hS
  have e64 : up X 70 (7 * (y : Int) + x) 1 64 = X 64 := up_cell _ _ _ (by decide)
  have e69 : up X 70 (7 * (y : Int) + x) 1 69 = X 69 := up_cell _ _ _ (by decide)
  have eC : ∀ i, i < 64 → up C (71 + y) 6 (orS (C (71 + y) 6) x) i = C i := fun i h => up_cell _ _ _ (by omega)
  unfold PostS
  rw [eC 2 (by omega), eC 3 (by omega), eC 4 (by omega), eC 5 (by omega), e64]
  refine ⟨s1, s2, s3, fun k a b => ?_, fun l hl => ?_⟩
  · rw [nx_congr (by rw [e64]) e69, lsF_congr (fun l _ => slotL_congr e69 l)]
    exact s4 k a b
  · have q := s5 l hl
    unfold LetC at q ⊢
    rw [e69, slotL_congr e69, nx_congr (by rw [e64]) e69]
    by_cases e : l = y
    · subst e
      rw [up_at]
      simp only [Int.reduceEq, ↓reduceIte]
      refine ⟨q.1, ?_, q.2.2⟩
      have a := msk_or (camP X l) (s := x.toNat) (by omega)
      rw [show ((x.toNat : Nat) : Int) = x by omega] at a
      rw [q.2.1, a]
      refine msk_congr fun t ht => ?_
      unfold camP
      by_cases z : (t : Int) = x
      · rw [show up X 70 (7 * (l : Int) + x) 1 70 (7 * (l : Int) + (t : Int)) = 1 by rw [up_at]; exact if_pos (by omega)]
        simp [show t = x.toNat by omega]
      · rw [show up X 70 (7 * (l : Int) + x) 1 70 (7 * (l : Int) + (t : Int)) = X 70 (7 * (l : Int) + (t : Int)) by rw [up_at]; exact if_neg (by omega)]
        simp [show ¬ t = x.toNat by omega]
    · rw [up_cell _ _ _ (by omega)]
      refine ⟨q.1, ?_, q.2.2⟩
      rw [q.2.1]
      refine msk_congr fun t ht => ?_
      unfold camP
      rw [show up X 70 (7 * (y : Int) + x) 1 70 (7 * (l : Int) + (t : Int)) = X 70 (7 * (l : Int) + (t : Int)) by rw [up_at]; exact if_neg (by omega)]
theorem Sim_reach {C X : zM} {u y : Nat} {x : Int} (hS : Sim C X u) (hy : (y : Int) < X 64 7) (hx : 0 ≤ x ∧ x < 7) : Sim (up C (71 + y) 6 (orS (C (71 + y) 6) x)) (up X 70 (7 * (y : Int) + x) 1) u := by
  obtain ⟨hP, h0, ht, hh⟩ := hS
  have eC : ∀ i, i < 64 → up C (71 + y) 6 (orS (C (71 + y) 6) x) i = C i := fun i h => up_cell _ _ _ (by omega)
  have eX : ∀ i, i ≠ 70 → up X 70 (7 * (y : Int) + x) 1 i = X i := fun i h => up_cell _ _ _ h
  refine ⟨PostS_reach hP hy hx, by rw [eC 0 (by omega), eC 1 (by omega), eX 64 (by decide)]; exact h0, fun k hk => by rw [eC 7 (by omega)]; exact ht k hk, fun k hk => ?_⟩
  have q := hh k hk
  unfold SeatC sR sD sH at q ⊢
  rw [eC (8 + 8 * k) (by omega), eC (8 + 8 * k + 1) (by omega), eC (8 + 8 * k + 2) (by omega), eC (8 + 8 * k + 4) (by omega), eC (8 + 8 * k + 5) (by omega), eC (8 + 8 * k + 6) (by omega), eC (8 + 8 * k + 7) (by omega), eX 67 (by decide), eX 68 (by decide), eX 66 (by decide), eX 65 (by decide)]
  exact q
