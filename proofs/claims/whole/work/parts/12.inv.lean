/-! ===== what always holds is kept ===== -/
theorem setM_at (M : zM) (s k v : Int) (j : Int) : setM M s k v 67 j = if j = 20 * s + k then v else M 67 j := by
  simp [setM, up]
theorem setM_o (M : zM) (s k v : Int) (i : Nat) (h : i ≠ 67) (j : Int) : setM M s k v i j = M i j := by rw [setM_cell _ _ _ _ h]
theorem q6 (s a b : Int) : (6 * s + a = 6 * s + b) = (a = b) := propext ⟨fun h => by omega, fun h => by omega⟩
theorem q20 (s a b : Int) : (20 * s + a = 20 * s + b) = (a = b) := propext ⟨fun h => by omega, fun h => by omega⟩
theorem q20l (s a b : Int) : (20 * s + a ≤ 20 * s + b) = (a ≤ b) := propext ⟨fun h => by omega, fun h => by omega⟩
theorem q20t (s a b : Int) : (20 * s + a < 20 * s + b) = (a < b) := propext ⟨fun h => by omega, fun h => by omega⟩
/-- only a seat's own rows changed -/
theorem Inv_row {M M' : zM} {s : Int} (hI : Inv M) (h0 : 0 ≤ s ∧ s < 7) (hc : ∀ i, i ≠ 67 → i ≠ 68 → M' i = M i) (h67 : ∀ j, ¬ (20 * s ≤ j ∧ j < 20 * s + 20) → M' 67 j = M 67 j) (h68 : ∀ j, ¬ (12 * s ≤ j ∧ j < 12 * s + 12) → M' 68 j = M 68 j) (hS : SeatI M' s) (hD : DecI M' s) : Inv M' := by
  have e64 := hc 64 (by decide) (by decide)
  have e65 := hc 65 (by decide) (by decide)
  have e66 := hc 66 (by decide) (by decide)
  have e69 := hc 69 (by decide) (by decide)
  have e70 := hc 70 (by decide) (by decide)
  refine ⟨by rw [e64]; exact hI.1, by rw [e64]; exact hI.2.1, by rw [e64]; exact hI.2.2.1, by rw [e64]; exact hI.2.2.2.1, fun t ht1 ht2 => ?_, fun l hl1 hl2 => ?_, fun t v h1 h2 h3 h4 => by rw [e66]; exact hI.2.2.2.2.2.2 t v h1 h2 h3 h4⟩
  · by_cases e : t = s
    · rw [e]; exact ⟨hS, hD⟩
    · obtain ⟨q1, q2⟩ := hI.2.2.2.2.1 t ht1 ht2
      have r : ∀ k : Int, 0 ≤ k → k < 20 → M' 67 (20 * t + k) = M 67 (20 * t + k) := fun k a b => h67 _ (by omega)
      constructor
      · unfold SeatI
        rw [e65, r 0 (by decide) (by decide), r 1 (by decide) (by decide), r 2 (by decide) (by decide), r 3 (by decide) (by decide), r 4 (by decide) (by decide), r 5 (by decide) (by decide), r 6 (by decide) (by decide), r 7 (by decide) (by decide), r 8 (by decide) (by decide), r 9 (by decide) (by decide), r 10 (by decide) (by decide), r 11 (by decide) (by decide), r 12 (by decide) (by decide), r 13 (by decide) (by decide), r 14 (by decide) (by decide), r 15 (by decide) (by decide), r 16 (by decide) (by decide)]
        exact q1
      · intro h a b
        rw [h68 (12 * t + 2 * h) (by omega), h68 (12 * t + 2 * h + 1) (by omega), r 0 (by decide) (by decide)]
        exact q2 h a b
  · obtain ⟨q1, q2⟩ := hI.2.2.2.2.2.1 l hl1 (by rw [← e64]; exact hl2)
    refine ⟨?_, ?_⟩
    · unfold LetI
      rw [e69, e64]
      exact q1
    · intro t a b
      rw [e70, e64]
      exact q2 t a b
/-- the same, for the seat's numbers alone -/
theorem Inv_s67 {M M' : zM} {s : Int} (hI : Inv M) (h0 : 0 ≤ s ∧ s < 7) (hc : ∀ i, i ≠ 67 → M' i = M i) (h67 : ∀ j, ¬ (20 * s ≤ j ∧ j < 20 * s + 20) → M' 67 j = M 67 j) (hH : M' 67 (20 * s + 0) = M 67 (20 * s + 0)) (hS : SeatI M' s) : Inv M' := by
  refine Inv_row hI h0 (fun i a _ => hc i a) h67 (fun j _ => by rw [hc 68 (by decide)]) hS ?_
  intro h a b
  rw [hc 68 (by decide), hH]
  exact (hI.2.2.2.2.1 s h0.1 h0.2).2 h a b
def Nx (M M' : zM) : Prop := Inv M' ∧ (M' 64 0 = M 64 0 ∧ M' 64 1 = M 64 1 ∧ M' 64 2 = M 64 2) ∧ M' 65 = M 65 ∧ M' 66 = M 66 ∧ M 64 7 ≤ M' 64 7
theorem Nx.rf {M : zM} (h : Inv M) : Nx M M := ⟨h, ⟨rfl, rfl, rfl⟩, rfl, rfl, Int.le_refl _⟩
theorem Nx.tr {M M' M'' : zM} (h : Nx M M') (h' : Nx M' M'') : Nx M M'' :=
  ⟨h'.1, ⟨h'.2.1.1.trans h.2.1.1, h'.2.1.2.1.trans h.2.1.2.1, h'.2.1.2.2.trans h.2.1.2.2⟩, h'.2.2.1.trans h.2.2.1, h'.2.2.2.1.trans h.2.2.2.1, Int.le_trans h.2.2.2.2 h'.2.2.2.2⟩
theorem Nx_s67 {M M' : zM} {s : Int} (hI : Inv M) (h0 : 0 ≤ s ∧ s < 7) (hc : ∀ i, i ≠ 67 → M' i = M i) (h67 : ∀ j, ¬ (20 * s ≤ j ∧ j < 20 * s + 20) → M' 67 j = M 67 j) (hH : M' 67 (20 * s + 0) = M 67 (20 * s + 0)) (hS : SeatI M' s) : Nx M M' := by
  refine ⟨Inv_s67 hI h0 hc h67 hH hS, ?_, hc 65 (by decide), hc 66 (by decide), ?_⟩
  · rw [hc 64 (by decide)]; exact ⟨rfl, rfl, rfl⟩
  · rw [hc 64 (by decide)]; exact Int.le_refl _
/-- a letter sent -/
theorem sendsM_full {M : zM} {s kd h r v vr own : Int} (hf : M 64 7 = 400) : sendsM M s kd h r v vr own = M := if_pos hf
theorem cameN_out (G : zM) (L s own : Int) (j : Int) : ∀ k : Nat, ¬ (7 * L ≤ j ∧ j < 7 * L + (k : Int)) → cameN G L s own k 70 j = G 70 j
  | 0, _ => rfl
  | k + 1, h => by
    rw [cameN]
    unfold up
    rw [if_neg (by omega)]
    exact cameN_out G L s own j k (by omega)
theorem cameN_in (G : zM) (L s own : Int) (i : Int) (hi : 0 ≤ i) : ∀ k : Nat, i < (k : Int) → cameN G L s own k 70 (7 * L + i) = bI (own ≠ 0 ∧ i = s)
  | 0, h => by omega
  | k + 1, h => by
    rw [cameN]
    unfold up
    by_cases e : i = (k : Int)
    · rw [if_pos ⟨rfl, by omega⟩, e]
    · rw [if_neg (by omega)]
      exact cameN_in G L s own i hi k (by omega)
section SD
variable {M : zM} {s kd h r v vr own : Int}
theorem sendsM_64 (j : Int) : sendsM M s kd h r v vr own 64 j = if j = 7 then (if M 64 7 = 400 then 400 else M 64 7 + 1) else M 64 j := by
  unfold sendsM
  by_cases hf : M 64 7 = 400
  · rw [if_pos hf, if_pos hf]
    split
    · rename_i e; rw [e, hf]
    · rfl
  · rw [if_neg hf, if_neg hf]
    unfold up
    by_cases e : j = 7
    · rw [if_pos ⟨rfl, e⟩, if_pos e]
    · rw [if_neg (by omega), if_neg e, cameN_ne _ _ _ _ _ (by decide)]
      rfl
theorem sendsM_70 (hf : M 64 7 ≠ 400) (j : Int) : sendsM M s kd h r v vr own 70 j = if 7 * M 64 7 ≤ j ∧ j < 7 * M 64 7 + 7 then bI (own ≠ 0 ∧ j - 7 * M 64 7 = s) else M 70 j := by
  unfold sendsM
  rw [if_neg hf, up_cell _ _ _ (by decide)]
  split
  · rename_i q
    have := cameN_in (up (up (up (up (up (up M 69 (6 * M 64 7 + 0) s) 69 (6 * M 64 7 + 1) kd) 69 (6 * M 64 7 + 2) h) 69 (6 * M 64 7 + 3) r) 69 (6 * M 64 7 + 4) v) 69 (6 * M 64 7 + 5) vr) (M 64 7) s own (j - 7 * M 64 7) (by omega) 7 (by omega)
    rw [show 7 * M 64 7 + (j - 7 * M 64 7) = j by omega] at this
    exact this
  · rename_i q
    rw [cameN_out _ _ _ _ _ _ (by omega)]
    rfl
theorem sendsM_69 (hf : M 64 7 ≠ 400) (j : Int) : sendsM M s kd h r v vr own 69 j = if j = 6 * M 64 7 + 5 then vr else if j = 6 * M 64 7 + 4 then v else if j = 6 * M 64 7 + 3 then r else if j = 6 * M 64 7 + 2 then h else if j = 6 * M 64 7 + 1 then kd else if j = 6 * M 64 7 + 0 then s else M 69 j := by
  unfold sendsM
  rw [if_neg hf, up_cell _ _ _ (by decide), cameN_ne _ _ _ _ _ (by decide)]
  simp [up]
end SD
theorem sendsM_oth (M : zM) (s kd h r v vr own : Int) {i : Nat} (h1 : i ≠ 64) (h2 : i ≠ 69) (h3 : i ≠ 70) : sendsM M s kd h r v vr own i = M i := by
  unfold sendsM
  split
  · rfl
  · rw [up_cell _ _ _ h1, cameN_ne _ _ _ _ _ h3, up_cell _ _ _ h2, up_cell _ _ _ h2, up_cell _ _ _ h2, up_cell _ _ _ h2, up_cell _ _ _ h2, up_cell _ _ _ h2]
theorem Nx_sends {M : zM} {s kd h r v vr own : Int} (hI : Inv M) (hs : 0 ≤ s ∧ s < M 64 0) (hk : 0 ≤ kd ∧ kd ≤ 2) (hh : 0 ≤ h ∧ h ≤ 5) (hr : 0 ≤ r ∧ r ≤ 9) (hv : -1 ≤ v ∧ v ≤ 99) (hv0 : kd = 0 → 0 ≤ v) (hvr : -1 ≤ vr ∧ vr ≤ 9) : Nx M (sendsM M s kd h r v vr own) := by
  by_cases hf : M 64 7 = 400
  · rw [sendsM_full hf]; exact Nx.rf hI
  · have e7 : sendsM M s kd h r v vr own 64 7 = M 64 7 + 1 := by rw [sendsM_64, if_pos rfl, if_neg hf]
    have e0 : ∀ j, j ≠ 7 → sendsM M s kd h r v vr own 64 j = M 64 j := fun j hj => by rw [sendsM_64, if_neg hj]
    have hL := hI.2.2.2.1
    refine ⟨⟨by rw [e0 0 (by decide)]; exact hI.1, by rw [e0 1 (by decide)]; exact hI.2.1, by rw [e0 2 (by decide)]; exact hI.2.2.1, by rw [e7]; omega, fun t a b => ?_, fun l a b => ?_, fun t w a b c d => by rw [sendsM_oth _ _ _ _ _ _ _ _ (by decide) (by decide) (by decide)]; exact hI.2.2.2.2.2.2 t w a b c d⟩, ⟨e0 0 (by decide), e0 1 (by decide), e0 2 (by decide)⟩, sendsM_oth _ _ _ _ _ _ _ _ (by decide) (by decide) (by decide), sendsM_oth _ _ _ _ _ _ _ _ (by decide) (by decide) (by decide), by rw [e7]; omega⟩
    · have q := hI.2.2.2.2.1 t a b
      unfold SeatI DecI
      rw [sendsM_67, sendsM_oth _ _ _ _ _ _ _ _ (by decide) (by decide) (by decide), sendsM_oth (i := 68) _ _ _ _ _ _ _ _ (by decide) (by decide) (by decide)]
      exact q
    · rw [e7] at b
      by_cases e : l = M 64 7
      · refine ⟨?_, ?_⟩
        · unfold LetI
          rw [e0 0 (by decide)]
          simp only [sendsM_69 hf, e, q6, Int.reduceEq, ↓reduceIte]
          exact ⟨hs, hk, hh, hr, hv, hv0, hvr⟩
        · intro t c d
          rw [sendsM_70 hf, if_pos (by omega), e0 0 (by decide)]
          refine ⟨bI_01 _, fun g => bI_f (by omega)⟩
      · obtain ⟨q1, q2⟩ := hI.2.2.2.2.2.1 l a (by omega)
        refine ⟨?_, ?_⟩
        · unfold LetI
          rw [e0 0 (by decide)]
          have r : ∀ k : Int, 0 ≤ k → k < 6 → sendsM M s kd h r v vr own 69 (6 * l + k) = M 69 (6 * l + k) := fun k c d => by
            rw [sendsM_69 hf, if_neg (by omega), if_neg (by omega), if_neg (by omega), if_neg (by omega), if_neg (by omega), if_neg (by omega)]
          rw [r 0 (by decide) (by decide), r 1 (by decide) (by decide), r 2 (by decide) (by decide), r 3 (by decide) (by decide), r 4 (by decide) (by decide), r 5 (by decide) (by decide)]
          exact q1
        · intro t c d
          rw [sendsM_70 hf, if_neg (by omega), e0 0 (by decide)]
          exact q2 t c d
theorem sendsM_c67 (M : zM) (s kd h r v vr own : Int) (j : Int) : sendsM M s kd h r v vr own 67 j = M 67 j := by rw [sendsM_67]
/-- one number of a seat put: what it must be -/
theorem Nx_set {M : zM} {s k v : Int} (hI : Inv M) (h0 : 0 ≤ s ∧ s < 7) (hk : 0 < k ∧ k < 20) (hS : SeatI (setM M s k v) s) : Nx M (setM M s k v) :=
  Nx_s67 hI h0 (fun i h => setM_cell _ _ _ _ h) (fun j h => setM_ne _ _ _ _ _ (by omega)) (setM_ne _ _ _ _ _ (by omega)) hS
theorem Nx_step {M : zM} {s v : Int} (hI : Inv M) (h0 : 0 ≤ s ∧ s < 7) (hv : 0 ≤ v ∧ v ≤ 2) : Nx M (setM M s 2 v) := by
  refine Nx_set hI h0 (by omega) ?_
  have q := (hI.2.2.2.2.1 s h0.1 h0.2).1
  unfold SeatI at q ⊢
  rw [setM_o _ _ _ _ _ (by decide)]
  simp only [setM_at, q20, Int.reduceEq, ↓reduceIte]
  obtain ⟨q1, q2, q3, q4, q5⟩ := q
  exact ⟨q1, q2, q3, hv, q5⟩
theorem Nx_casts {M : zM} {s kd v : Int} (hI : Inv M) (hs : 0 ≤ s ∧ s < M 64 0) (hk : 1 ≤ kd ∧ kd ≤ 2) (hh : M 67 (20 * s + 0) ≤ 5) (hv : -1 ≤ v ∧ v ≤ 99) : Nx M (castsM M s kd v) := by
  have hn := hI.1
  have q := seat_rng hI (s := s) (by omega)
  have h1 := Nx_sends (M := M) (s := s) (kd := kd) (h := M 67 (20 * s + 0)) (r := M 67 (20 * s + 1)) (v := v) (vr := -1) (own := 1) hI hs (by omega) (by omega) (by omega) hv (by omega) (by omega)
  exact h1.tr (Nx_step h1.1 (by omega) (by omega))
theorem setTimerM_at (M : zM) {s k : Int} (hk : 0 ≤ k) (j : Int) : setTimerM M s k 67 j = if j = 20 * s + (14 + k) then 10 * M 67 (20 * s + 0) + M 67 (20 * s + 1) else if j = 20 * s + (11 + k) then 1 else M 67 j := by
  unfold setTimerM
  rw [setM_ne M s (11 + k) 1 (20 * s + 0) (by omega), setM_ne M s (11 + k) 1 (20 * s + 1) (by omega), setM_at, setM_at]
theorem Nx_timer {M : zM} {s k : Int} (hI : Inv M) (h0 : 0 ≤ s ∧ s < 7) (hk : 0 ≤ k ∧ k ≤ 2) (hf : M 65 s = 0) (hh : M 67 (20 * s + 0) ≤ 5) : Nx M (setTimerM M s k) := by
  have q := (hI.2.2.2.2.1 s h0.1 h0.2).1
  have hr := seat_rng hI h0
  refine Nx_s67 hI h0 (fun i h => by unfold setTimerM; rw [setM_cell _ _ _ _ h, setM_cell _ _ _ _ h]) (fun j h => by rw [setTimerM_at M hk.1, if_neg (by omega), if_neg (by omega)]) (by rw [setTimerM_at M hk.1, if_neg (by omega), if_neg (by omega)]) ?_
  unfold SeatI at q ⊢
  have e65 : setTimerM M s k 65 = M 65 := by unfold setTimerM; rw [setM_cell _ _ _ _ (by decide), setM_cell _ _ _ _ (by decide)]
  rw [e65]
  obtain ⟨q1, q2, q3, q4, q5, q6, q7, q8, q9, q10, q11, q12, q13, q14, q15, q16, q17, q18, q19⟩ := q
  have hA : 0 ≤ 10 * M 67 (20 * s + 0) + M 67 (20 * s + 1) ∧ 10 * M 67 (20 * s + 0) + M 67 (20 * s + 1) ≤ 69 := by omega
  have hx : ¬ (M 65 s = 1 ∨ 5 < M 67 (20 * s + 0)) := by omega
  rcases (show k = 0 ∨ k = 1 ∨ k = 2 by omega) with rfl | rfl | rfl
  · simp only [setTimerM_at M (show (0 : Int) ≤ 0 by decide), q20, Int.reduceAdd, Int.reduceEq, ↓reduceIte]
    exact ⟨q1, q2, q3, q4, q5, q6, q7, q8, q9, q10, q11, q12, Or.inr trivial, q14, q15, fun _ => hA, q17, q18, fun h => absurd h hx⟩
  · simp only [setTimerM_at M (show (0 : Int) ≤ 1 by decide), q20, Int.reduceAdd, Int.reduceEq, ↓reduceIte]
    exact ⟨q1, q2, q3, q4, q5, q6, q7, q8, q9, q10, q11, q12, q13, Or.inr trivial, q15, q16, fun _ => hA, q18, fun h => absurd h hx⟩
  · simp only [setTimerM_at M (show (0 : Int) ≤ 2 by decide), q20, Int.reduceAdd, Int.reduceEq, ↓reduceIte]
    exact ⟨q1, q2, q3, q4, q5, q6, q7, q8, q9, q10, q11, q12, q13, q14, Or.inr trivial, q16, q17, fun _ => hA, fun h => absurd h hx⟩
theorem enterM_at (M : zM) (s r j : Int) : enterM M s r 67 j = if j = 20 * s + 10 then 0 else if j = 20 * s + 9 then 0 else if j = 20 * s + 8 then 0 else if j = 20 * s + 2 then 0 else if j = 20 * s + 1 then r else M 67 j := by
  unfold enterM
  rw [setM_at, setM_at, setM_at, setM_at, setM_at]
theorem enterM_cell (M : zM) (s r : Int) {i : Nat} (h : i ≠ 67) : enterM M s r i = M i := by
  unfold enterM
  rw [setM_cell _ _ _ _ h, setM_cell _ _ _ _ h, setM_cell _ _ _ _ h, setM_cell _ _ _ _ h, setM_cell _ _ _ _ h]
theorem Nx_enter {M : zM} {s r : Int} (hI : Inv M) (h0 : 0 ≤ s ∧ s < 7) (hr : 0 ≤ r ∧ r ≤ 9) : Nx M (enterM M s r) := by
  have q := (hI.2.2.2.2.1 s h0.1 h0.2).1
  refine Nx_s67 hI h0 (fun i h => enterM_cell _ _ _ h) (fun j h => by rw [enterM_at, if_neg (by omega), if_neg (by omega), if_neg (by omega), if_neg (by omega), if_neg (by omega)]) (by rw [enterM_at, if_neg (by omega), if_neg (by omega), if_neg (by omega), if_neg (by omega), if_neg (by omega)]) ?_
  unfold SeatI at q ⊢
  rw [enterM_cell _ _ _ (by decide)]
  simp only [enterM_at, q20, Int.reduceEq, ↓reduceIte]
  obtain ⟨q1, q2, q3, q4, q5, q6, q7, q8, q9, q10, q11, q12, q13⟩ := q
  exact ⟨q1, q2, hr, by decide, q5, q6, q7, q8, q9, Or.inl trivial, Or.inl trivial, Or.inl trivial, q13⟩
theorem leastV_rng (M : zM) (s : Int) : 0 ≤ leastV M s ∧ leastV M s ≤ 99 := by
  unfold leastV
  cases e : fstB (leastP M s) 99 1 with
  | none => simp
  | some v =>
    have := fstB_some e
    simp only
    omega
theorem Nx_starts {M : zM} {s r : Int} (hI : Inv M) (hs : 0 ≤ s ∧ s < M 64 0) (hf : M 65 s = 0) (hh : M 67 (20 * s + 0) ≤ 5) (hr : 0 ≤ r) : Nx M (startsM M s r) := by
  have hn := hI.1
  have h7 : 0 ≤ s ∧ s < 7 := by omega
  have q := (hI.2.2.2.2.1 s h7.1 h7.2).1
  have hrr := seat_rng hI h7
  unfold startsM
  by_cases h9 : 9 < r
  · rw [if_pos h9]
    refine Nx_set hI h7 (by omega) ?_
    unfold SeatI at q ⊢
    rw [setM_o _ _ _ _ _ (by decide)]
    simp only [setM_at, q20, Int.reduceEq, ↓reduceIte]
    obtain ⟨q1, q2, q3, q4, q5, q6, q7, q8, q9, q10⟩ := q
    exact ⟨q1, q2, q3, q4, q5, q6, q7, q8, Or.inr trivial, q10⟩
  · rw [if_neg h9]
    have hE := Nx_enter hI h7 (r := r) (by omega)
    have e0 : enterM M s r 67 (20 * s + 0) = M 67 (20 * s + 0) := enterM_ne _ _ _ _ (by omega)
    have e5 : enterM M s r 67 (20 * s + 5) = M 67 (20 * s + 5) := enterM_ne _ _ _ _ (by omega)
    have e6 : enterM M s r 67 (20 * s + 6) = M 67 (20 * s + 6) := enterM_ne _ _ _ _ (by omega)
    have e65 : enterM M s r 65 s = M 65 s := by rw [enterM_cell _ _ _ (by decide)]
    have e64 : enterM M s r 64 0 = M 64 0 := by rw [enterM_cell _ _ _ (by decide)]
    split
    · exact hE.tr (Nx_timer hE.1 h7 (by omega) (by rw [e65]; exact hf) (by omega))
    · split
      · rename_i h5
        have h6 := q.2.2.2.2.2.2.2.1
        refine hE.tr (Nx_sends hE.1 (by omega) (by omega) (by omega) (by omega) (by omega) (by omega) ?_)
        rw [e5] at h5
        have := h6 h5
        omega
      · have hl := leastV_rng (enterM M s r) s
        exact hE.tr (Nx_sends hE.1 (by omega) (by omega) (by omega) (by omega) (by omega) (by omega) (by omega))
theorem tmN_at (M : zM) (s j : Int) : ∀ k : Nat, tmN M s k 67 j = if 20 * s + 11 ≤ j ∧ j < 20 * s + 11 + (k : Int) then 0 else M 67 j
  | 0 => by rw [if_neg (by omega)]; rfl
  | k + 1 => by
    rw [tmN, setM_at, tmN_at M s j k]
    by_cases e : j = 20 * s + (11 + (k : Int))
    · rw [if_pos e, if_pos (by omega)]
    · rw [if_neg e]
      by_cases e2 : 20 * s + 11 ≤ j ∧ j < 20 * s + 11 + (k : Int)
      · rw [if_pos e2, if_pos (by omega)]
      · rw [if_neg e2, if_neg (by omega)]
theorem tmN_cell (M : zM) (s : Int) {i : Nat} (h : i ≠ 67) : ∀ k : Nat, tmN M s k i = M i
  | 0 => rfl
  | k + 1 => by rw [tmN, setM_cell _ _ _ _ h, tmN_cell M s h k]
theorem endM_at (M : zM) (s r v j : Int) : endM M s r v 67 j = if j = 20 * s + 2 then 0 else if j = 20 * s + 1 then 0 else if 20 * s + 11 ≤ j ∧ j < 20 * s + 14 then 0 else if j = 20 * s + 7 then 0 else if j = 20 * s + 5 then -1 else if j = 20 * s + 3 then -1 else if j = 20 * s + 0 then M 67 (20 * s + 0) + 1 else M 67 j := by
  unfold endM
  rw [setM_at, setM_at, tmN_at, setM_at, setM_at, setM_at, setM_at, show 20 * s + 11 + ((3 : Nat) : Int) = 20 * s + 14 by omega]
  rfl
theorem endM_68 (M : zM) (s r v j : Int) : endM M s r v 68 j = if j = 12 * s + 2 * M 67 (20 * s + 0) + 1 then r else if j = 12 * s + 2 * M 67 (20 * s + 0) then v else M 68 j := by
  unfold endM
  rw [setM_cell _ _ _ _ (by decide), setM_cell _ _ _ _ (by decide), tmN_cell _ _ (by decide), setM_cell _ _ _ _ (by decide), setM_cell _ _ _ _ (by decide), setM_cell _ _ _ _ (by decide), setM_cell _ _ _ _ (by decide)]
  simp [up]
theorem endM_cell (M : zM) (s r v : Int) {i : Nat} (h : i ≠ 67) (h8 : i ≠ 68) : endM M s r v i = M i := by
  unfold endM
  rw [setM_cell _ _ _ _ h, setM_cell _ _ _ _ h, tmN_cell _ _ h, setM_cell _ _ _ _ h, setM_cell _ _ _ _ h, setM_cell _ _ _ _ h, setM_cell _ _ _ _ h, up_cell _ _ _ h8, up_cell _ _ _ h8]
theorem Nx_end {M : zM} {s r v : Int} (hI : Inv M) (h0 : 0 ≤ s ∧ s < 7) (hh : M 67 (20 * s + 0) ≤ 5) (hr : 0 ≤ r ∧ r ≤ 9) (hv : 0 ≤ v ∧ v ≤ 99) : Nx M (endM M s r v) := by
  have q := hI.2.2.2.2.1 s h0.1 h0.2
  have hrr := seat_rng hI h0
  refine ⟨Inv_row hI h0 (fun i a b => endM_cell _ _ _ _ a b) (fun j h => ?_) (fun j h => ?_) ?_ ?_, ?_, endM_cell _ _ _ _ (by decide) (by decide), endM_cell _ _ _ _ (by decide) (by decide), ?_⟩
  · rw [endM_at, if_neg (by omega), if_neg (by omega), if_neg (by omega), if_neg (by omega), if_neg (by omega), if_neg (by omega), if_neg (by omega)]
  · rw [endM_68, if_neg (by omega), if_neg (by omega)]
  · have q := q.1
    unfold SeatI at q ⊢
    rw [endM_cell _ _ _ _ (by decide) (by decide)]
    simp only [endM_at, q20, q20l, q20t, Int.reduceEq, Int.reduceLE, Int.reduceLT, ↓reduceIte, and_false, false_and, and_self]
    obtain ⟨q1, q2, q3, q4, q5, q6, q7, q8, q9, q10, q11, q12, q13, q14, q15, q16, q17, q18, q19⟩ := q
    refine ⟨q1, by omega, ?_, ?_, ?_, ?_, ?_, ?_, ?_, q10, q11, q12, ?_, ?_, ?_, ?_, ?_, ?_, ?_⟩ <;> first | trivial | decide | exact Or.inl trivial | exact fun h => h.elim | exact fun _ => trivial | exact fun _ => ⟨trivial, trivial, trivial⟩
  · intro t a b
    have q := q.2 t a b
    have e1 : endM M s r v 68 (12 * s + 2 * t) = if t = M 67 (20 * s + 0) then v else M 68 (12 * s + 2 * t) := by
      rw [endM_68, if_neg (by omega)]
      by_cases e : t = M 67 (20 * s + 0)
      · rw [if_pos e, if_pos (by omega)]
      · rw [if_neg e, if_neg (by omega)]
    have e2 : endM M s r v 68 (12 * s + 2 * t + 1) = if t = M 67 (20 * s + 0) then r else M 68 (12 * s + 2 * t + 1) := by
      rw [endM_68]
      by_cases e : t = M 67 (20 * s + 0)
      · rw [if_pos e, if_pos (by omega)]
      · rw [if_neg e, if_neg (by omega), if_neg (by omega)]
    rw [e1, e2, endM_0]
    obtain ⟨q1, q2, q3⟩ := q
    by_cases e : t = M 67 (20 * s + 0)
    · rw [if_pos e, if_pos e]
      exact ⟨by omega, ⟨fun _ => by omega, fun _ => hv.1⟩, fun _ => hr⟩
    · rw [if_neg e, if_neg e]
      exact ⟨q1, ⟨fun h => by have := q2.mp h; omega, fun h => q2.mpr (by omega)⟩, q3⟩
  · rw [endM_cell _ _ _ _ (by decide) (by decide)]; exact ⟨rfl, rfl, rfl⟩
  · rw [endM_cell _ _ _ _ (by decide) (by decide)]; exact Int.le_refl _
theorem Nx_dodec {M : zM} {s r v : Int} (hI : Inv M) (hs : 0 ≤ s ∧ s < M 64 0) (hf : M 65 s = 0) (hh : M 67 (20 * s + 0) ≤ 5) (hr : 0 ≤ r ∧ r ≤ 9) (hv : 0 ≤ v ∧ v ≤ 99) : Nx M (dodecM M s r v) := by
  have hn := hI.1
  have h7 : 0 ≤ s ∧ s < 7 := by omega
  have hE := Nx_end hI h7 hh hr hv
  unfold dodecM
  split
  · exact hE
  · exact hE.tr (Nx_starts hE.1 (by rw [hE.2.1.1]; exact hs) (by rw [hE.2.2.1]; exact hf) (by omega) (by omega))
/-- how far a seat is from the end -/
def muI (M : zM) (s : Int) : Int := (6 - M 67 (20 * s + 0)) * 1000 + (9 - M 67 (20 * s + 1)) * 100 + (5 - M 67 (20 * s + 2) - M 67 (20 * s + 8) - M 67 (20 * s + 9) - M 67 (20 * s + 10))
theorem muI_rng {M : zM} {s : Int} (hI : Inv M) (h0 : 0 ≤ s ∧ s < 7) : 0 ≤ muI M s ∧ muI M s < 9000 := by
  have q := (hI.2.2.2.2.1 s h0.1 h0.2).1
  have h := seat_rng hI h0
  unfold muI
  obtain ⟨-, -, -, -, -, -, -, -, -, q8, q9, q10, -⟩ := q
  omega
theorem castsM_at (M : zM) (s kd v j : Int) : castsM M s kd v 67 j = if j = 20 * s + 2 then kd else M 67 j := by
  unfold castsM
  rw [setM_at, sendsM_67]
theorem startsM_67 (M : zM) (s r j : Int) (h9 : ¬ 9 < r) (hj : j < 20 * s + 11) : startsM M s r 67 j = enterM M s r 67 j := by
  unfold startsM
  rw [if_neg h9]
  split
  · rw [setTimerM_at _ (by decide), if_neg (by omega), if_neg (by omega)]
  · split <;> rw [sendsM_67]
/-- a rule that fits: all stays in order, and the seat is nearer to the end -/
def Gd (M M' : zM) (s : Int) : Prop := Nx M M' ∧ muI M' s < muI M s
theorem propo_yes {M : zM} {s : Int} {l : Nat} (h : propo M s l = true) : M 69 (6 * (l : Int) + 1) = 0 := by
  simp only [propo, decide_eq_true_eq] at h
  exact h.2.1
theorem Gd_decides {M M' : zM} {s : Int} (hI : Inv M) (hs : 0 ≤ s ∧ s < M 64 0) (hf : M 65 s = 0) (hh : M 67 (20 * s + 0) ≤ 5) : ∀ (k r : Nat), k + r ≤ 10 → decF M s k r = some M' → Gd M M' s
  | 0, r, _, h => by cases h
  | k + 1, r, hr, h => by
    rw [decF] at h
    cases e : fstB (supP M s r 2) (M 64 7).toNat 0 with
    | none => rw [e] at h; exact Gd_decides hI hs hf hh k (r + 1) (by omega) h
    | some l =>
      rw [e] at h
      cases h
      have e2 := fstB_some e
      have hl := let_rng hI (l := (l : Int)) (by omega)
      have hp := e2.2.2
      simp only [supP, Bool.and_eq_true] at hp
      have hp := propo_yes hp.1.1.1
      have hv := (hI.2.2.2.2.2.1 (l : Int) (by omega) (by omega)).1.2.2.2.2.2.1 hp
      have hn := hI.1
      have hrr := seat_rng hI (s := s) (by omega)
      have hq := (hI.2.2.2.2.1 s (by omega) (by omega)).1
      obtain ⟨-, -, -, -, -, -, -, -, -, q8, q9, q10, -⟩ := hq
      refine ⟨Nx_dodec hI hs hf hh (by omega) (by omega), ?_⟩
      unfold muI dodecM
      split
      · simp only [endM_at, q20, q20l, q20t, Int.reduceEq, Int.reduceLE, Int.reduceLT, ↓reduceIte, and_true, true_and, and_false, false_and, and_self]
        omega
      · simp only [startsM_67 _ _ _ _ (show ¬ (9 : Int) < 0 by decide) (show 20 * s + 0 < 20 * s + 11 by omega), startsM_67 _ _ _ _ (show ¬ (9 : Int) < 0 by decide) (show 20 * s + 1 < 20 * s + 11 by omega), startsM_67 _ _ _ _ (show ¬ (9 : Int) < 0 by decide) (show 20 * s + 2 < 20 * s + 11 by omega), startsM_67 _ _ _ _ (show ¬ (9 : Int) < 0 by decide) (show 20 * s + 8 < 20 * s + 11 by omega), startsM_67 _ _ _ _ (show ¬ (9 : Int) < 0 by decide) (show 20 * s + 9 < 20 * s + 11 by omega), startsM_67 _ _ _ _ (show ¬ (9 : Int) < 0 by decide) (show 20 * s + 10 < 20 * s + 11 by omega), enterM_at, endM_at, q20, q20l, q20t, Int.reduceEq, Int.reduceLE, Int.reduceLT, ↓reduceIte, and_true, true_and, and_false, false_and, and_self]
        omega
theorem Gd_jumps {M M' : zM} {s : Int} (hI : Inv M) (hs : 0 ≤ s ∧ s < M 64 0) (hf : M 65 s = 0) (hh : M 67 (20 * s + 0) ≤ 5) : ∀ (k : Nat), M 67 (20 * s + 1) + (k : Int) ≤ 9 → jmpF M s k = some M' → Gd M M' s
  | 0, _, h => by cases h
  | k + 1, hk, h => by
    rw [jmpF] at h
    split at h
    · cases h
      have hn := hI.1
      have hrr := seat_rng hI (s := s) (by omega)
      have hq := (hI.2.2.2.2.1 s (by omega) (by omega)).1
      obtain ⟨-, -, -, -, -, -, -, -, -, q8, q9, q10, -⟩ := hq
      have h9 : ¬ 9 < M 67 (20 * s + 1) + (k : Int) + 1 := by omega
      refine ⟨Nx_starts hI hs hf hh (by omega), ?_⟩
      unfold muI
      simp only [startsM_67 _ _ _ _ h9 (show 20 * s + 0 < 20 * s + 11 by omega), startsM_67 _ _ _ _ h9 (show 20 * s + 1 < 20 * s + 11 by omega), startsM_67 _ _ _ _ h9 (show 20 * s + 2 < 20 * s + 11 by omega), startsM_67 _ _ _ _ h9 (show 20 * s + 8 < 20 * s + 11 by omega), startsM_67 _ _ _ _ h9 (show 20 * s + 9 < 20 * s + 11 by omega), startsM_67 _ _ _ _ h9 (show 20 * s + 10 < 20 * s + 11 by omega), enterM_at, q20, Int.reduceEq, ↓reduceIte]
      omega
    · exact Gd_jumps hI hs hf hh k (by omega) h
theorem Gd_casts {M : zM} {s kd v : Int} (hI : Inv M) (hs : 0 ≤ s ∧ s < M 64 0) (hk : 1 ≤ kd ∧ kd ≤ 2) (hst : M 67 (20 * s + 2) < kd) (hh : M 67 (20 * s + 0) ≤ 5) (hv : -1 ≤ v ∧ v ≤ 99) : Gd M (castsM M s kd v) s := by
  refine ⟨Nx_casts hI hs hk hh hv, ?_⟩
  unfold muI
  simp only [castsM_at, q20, Int.reduceEq, ↓reduceIte]
  omega
theorem newV_rng {M : zM} {s : Int} {l : Nat} (hI : Inv M) (h : (l : Int) < M 64 7) : -1 ≤ newV M s l ∧ newV M s l ≤ 99 := by
  have hl := let_rng hI (l := (l : Int)) (by omega)
  unfold newV
  split <;> omega
theorem oldV_rng {M : zM} {s : Int} {l : Nat} (hI : Inv M) (h : (l : Int) < M 64 7) : -1 ≤ oldV M s l ∧ oldV M s l ≤ 99 := by
  have hl := let_rng hI (l := (l : Int)) (by omega)
  unfold oldV
  split <;> omega
theorem Gd_prevotes {M M' : zM} {s : Int} (hI : Inv M) (hs : 0 ≤ s ∧ s < M 64 0) (hh : M 67 (20 * s + 0) ≤ 5) (h : prevotesM M s = some M') : Gd M M' s := by
  unfold prevotesM at h
  split at h
  · cases h
  · rename_i h2
    cases e : fstB (newP M s) (M 64 7).toNat 0 with
    | some l =>
      rw [e] at h
      cases h
      have e2 := fstB_some e
      exact Gd_casts hI hs (by omega) (by omega) hh (newV_rng hI (by omega))
    | none =>
      rw [e] at h
      change prevOldM M s = some M' at h
      unfold prevOldM at h
      cases e3 : fstB (oldP M s) (M 64 7).toNat 0 with
      | none => rw [e3] at h; cases h
      | some l =>
        rw [e3] at h
        cases h
        have e2 := fstB_some e3
        exact Gd_casts hI hs (by omega) (by omega) hh (oldV_rng hI (by omega))
theorem Nx_seat6 {M : zM} {s k v : Int} (hI : Inv M) (h0 : 0 ≤ s ∧ s < 7) (hk : k = 8 ∨ k = 9 ∨ k = 10) : Nx M (setM M s k 1) := by
  refine Nx_set hI h0 (by omega) ?_
  have q := (hI.2.2.2.2.1 s h0.1 h0.2).1
  unfold SeatI at q ⊢
  rw [setM_o _ _ _ _ _ (by decide)]
  obtain ⟨q1, q2, q3, q4, q5, q6, q7, q8, q9, q10, q11, q12, q13⟩ := q
  rcases hk with rfl | rfl | rfl
  · simp only [setM_at, q20, Int.reduceEq, ↓reduceIte]
    exact ⟨q1, q2, q3, q4, q5, q6, q7, q8, q9, Or.inr trivial, q11, q12, q13⟩
  · simp only [setM_at, q20, Int.reduceEq, ↓reduceIte]
    exact ⟨q1, q2, q3, q4, q5, q6, q7, q8, q9, q10, Or.inr trivial, q12, q13⟩
  · simp only [setM_at, q20, Int.reduceEq, ↓reduceIte]
    exact ⟨q1, q2, q3, q4, q5, q6, q7, q8, q9, q10, q11, Or.inr trivial, q13⟩
theorem Nx_two {M : zM} {s k v r : Int} (hI : Inv M) (h0 : 0 ≤ s ∧ s < 7) (hk : k = 3 ∨ k = 5) (hv : -1 ≤ v ∧ v ≤ 99) (hr : 0 ≤ r ∧ r ≤ 9) : Nx M (setM (setM M s k v) s (k + 1) r) := by
  refine Nx_s67 hI h0 (fun i h => by rw [setM_cell _ _ _ _ h, setM_cell _ _ _ _ h]) (fun j h => by rw [setM_at, setM_at, if_neg (by omega), if_neg (by omega)]) (by rw [setM_at, setM_at, if_neg (by omega), if_neg (by omega)]) ?_
  have q := (hI.2.2.2.2.1 s h0.1 h0.2).1
  unfold SeatI at q ⊢
  rw [setM_o _ _ _ _ _ (by decide), setM_o _ _ _ _ _ (by decide)]
  obtain ⟨q1, q2, q3, q4, q5, q6, q7, q8, q9⟩ := q
  rcases hk with rfl | rfl
  · simp only [setM_at, q20, Int.reduceAdd, Int.reduceEq, ↓reduceIte]
    exact ⟨q1, q2, q3, q4, hv, fun _ => hr, q7, q8, q9⟩
  · simp only [setM_at, q20, Int.reduceAdd, Int.reduceEq, ↓reduceIte]
    exact ⟨q1, q2, q3, q4, q5, q6, hv, fun _ => hr, q9⟩
theorem Gd_doLock {M : zM} {s v : Int} (hI : Inv M) (hs : 0 ≤ s ∧ s < M 64 0) (hh : M 67 (20 * s + 0) ≤ 5) (hst : 1 ≤ M 67 (20 * s + 2)) (h8 : M 67 (20 * s + 8) = 0) (hv : 0 ≤ v ∧ v ≤ 99) : Gd M (doLockM M s v) s := by
  have hn := hI.1
  have h7 : 0 ≤ s ∧ s < 7 := by omega
  have hrr := seat_rng hI h7
  have a := Nx_seat6 (v := 0) hI h7 (Or.inl rfl)
  unfold doLockM
  split
  · have b := Nx_two a.1 h7 (Or.inl rfl) (v := v) (r := M 67 (20 * s + 1)) (by omega) (by omega)
    have c := Nx_casts b.1 (s := s) (kd := 2) (v := v) (by rw [b.2.1.1, a.2.1.1]; exact hs) (by omega) (by rw [setM_at, setM_at, setM_at, if_neg (by omega), if_neg (by omega), if_neg (by omega)]; exact hh) (by omega)
    have d := Nx_two c.1 h7 (Or.inr rfl) (v := v) (r := M 67 (20 * s + 1)) (by omega) (by omega)
    refine ⟨a.tr (b.tr (c.tr d)), ?_⟩
    unfold muI
    simp only [setM_at, castsM_at, q20, Int.reduceAdd, Int.reduceEq, ↓reduceIte]
    omega
  · have d := Nx_two a.1 h7 (Or.inr rfl) (v := v) (r := M 67 (20 * s + 1)) (by omega) (by omega)
    refine ⟨a.tr d, ?_⟩
    unfold muI
    simp only [setM_at, q20, Int.reduceAdd, Int.reduceEq, ↓reduceIte]
    omega
theorem Gd_locks {M M' : zM} {s : Int} (hI : Inv M) (hs : 0 ≤ s ∧ s < M 64 0) (hh : M 67 (20 * s + 0) ≤ 5) (h : locksM M s = some M') : Gd M M' s := by
  have hn := hI.1
  have hq := (hI.2.2.2.2.1 s (by omega) (by omega)).1
  have hrr := seat_rng hI (s := s) (by omega)
  unfold locksM at h
  split at h
  · cases h
  · rename_i h2
    cases e : fstB (supP M s (M 67 (20 * s + 1)) 1) (M 64 7).toNat 0 with
    | none => rw [e] at h; cases h
    | some l =>
      rw [e] at h
      cases h
      have e2 := fstB_some e
      have hl := let_rng hI (l := (l : Int)) (by omega)
      have hp := e2.2.2
      simp only [supP, Bool.and_eq_true] at hp
      have hp := propo_yes hp.1.1.1
      have hv := (hI.2.2.2.2.2.1 (l : Int) (by omega) (by omega)).1.2.2.2.2.2.1 hp
      obtain ⟨-, -, -, -, -, -, -, -, -, q8, -⟩ := hq
      exact Gd_doLock hI hs hh (by omega) (by omega) (by omega)
theorem Gd_nil {M M' : zM} {s : Int} (hI : Inv M) (hs : 0 ≤ s ∧ s < M 64 0) (hh : M 67 (20 * s + 0) ≤ 5) (h : nilM M s = some M') : Gd M M' s := by
  unfold nilM at h
  split at h
  · cases h
    exact Gd_casts hI hs (by omega) (by omega) hh (by omega)
  · cases h
theorem Gd_timer {M : zM} {s k : Int} (hI : Inv M) (hs : 0 ≤ s ∧ s < M 64 0) (hf : M 65 s = 0) (hh : M 67 (20 * s + 0) ≤ 5) (hk : k = 1 ∨ k = 2) (h0 : M 67 (20 * s + (8 + k)) = 0) : Gd M (setTimerM (setM M s (8 + k) 1) s k) s := by
  have hn := hI.1
  have h7 : 0 ≤ s ∧ s < 7 := by omega
  have a := Nx_seat6 (v := 0) hI h7 (k := 8 + k) (by omega)
  have b := Nx_timer a.1 h7 (k := k) (by omega) (by rw [a.2.2.1]; exact hf) (by rw [setM_at, if_neg (by omega)]; exact hh)
  refine ⟨a.tr b, ?_⟩
  unfold muI
  rcases hk with rfl | rfl
  · simp only [setTimerM_at _ (show (0 : Int) ≤ 1 by decide), setM_at, q20, Int.reduceAdd, Int.reduceEq, ↓reduceIte]
    simp only [Int.reduceAdd] at h0
    omega
  · simp only [setTimerM_at _ (show (0 : Int) ≤ 2 by decide), setM_at, q20, Int.reduceAdd, Int.reduceEq, ↓reduceIte]
    simp only [Int.reduceAdd] at h0
    omega
theorem Gd_timers {M M' : zM} {s : Int} (hI : Inv M) (hs : 0 ≤ s ∧ s < M 64 0) (hf : M 65 s = 0) (hh : M 67 (20 * s + 0) ≤ 5) (h : timersM M s = some M') : Gd M M' s := by
  unfold timersM at h
  cases e : tim1M M s with
  | some x =>
    rw [e] at h
    cases h
    unfold tim1M at e
    split at e
    · rename_i h9
      cases e
      exact Gd_timer (k := 1) hI hs hf hh (Or.inl rfl) h9.2.1
    · cases e
  | none =>
    rw [e] at h
    change tim2M M s = some M' at h
    unfold tim2M at h
    split at h
    · rename_i h9
      cases h
      exact Gd_timer (k := 2) hI hs hf hh (Or.inr rfl) h9.1
    · cases h
theorem orM_some {a b : Option zM} {x : zM} (h : orM a b = some x) : a = some x ∨ b = some x := by
  cases a with
  | none => exact Or.inr h
  | some y => exact Or.inl h
theorem Gd_fits {M M' : zM} {s : Int} (hI : Inv M) (hs : 0 ≤ s ∧ s < M 64 0) (hf : M 65 s = 0) (hh : M 67 (20 * s + 0) ≤ 5) (h : fitsM M s = some M') : Gd M M' s := by
  have hn := hI.1
  have hrr := seat_rng hI (s := s) (by omega)
  rcases orM_some h with h | h
  · exact Gd_decides hI hs hf hh 10 0 (by omega) h
  · rcases orM_some h with h | h
    · exact Gd_jumps hI hs hf hh _ (by omega) h
    · rcases orM_some h with h | h
      · exact Gd_prevotes hI hs hh h
      · rcases orM_some h with h | h
        · exact Gd_locks hI hs hh h
        · rcases orM_some h with h | h
          · exact Gd_nil hI hs hh h
          · exact Gd_timers hI hs hf hh h
theorem Nx_tick {M : zM} {s : Int} (hI : Inv M) (h0 : 0 ≤ s ∧ s < 7) : Nx M (tickM M s) ∧ muI (tickM M s) s = muI M s := by
  constructor
  · refine Nx_set hI h0 (by omega) ?_
    have q := (hI.2.2.2.2.1 s h0.1 h0.2).1
    unfold SeatI at q ⊢
    rw [setM_o _ _ _ _ _ (by decide)]
    simp only [setM_at, q20, Int.reduceEq, ↓reduceIte]
    exact q
  · unfold muI tickM
    simp only [setM_at, q20, Int.reduceEq, ↓reduceIte]
theorem Nx_rulesF {s : Int} : ∀ (k : Nat) {M : zM}, Inv M → 0 ≤ s ∧ s < M 64 0 → Nx M (rulesF s k M)
  | 0, M, hI, _ => Nx.rf hI
  | k + 1, M, hI, hs => by
    have hn := hI.1
    rw [rulesF]
    split
    · exact Nx.rf hI
    · rename_i h
      cases e : fitsM M s with
      | none => exact Nx.rf hI
      | some M' =>
        have g := (Gd_fits hI hs (by omega) (by omega) e).1
        have t := (Nx_tick g.1 (s := s) (by omega)).1
        exact g.tr (t.tr (Nx_rulesF k t.1 (by rw [t.2.1.1, g.2.1.1]; exact hs)))
theorem Nx_rules {M : zM} {s : Int} (hI : Inv M) (hs : 0 ≤ s ∧ s < M 64 0) : Nx M (rulesM M s) := Nx_rulesF _ hI hs
/-- once enough steps are allowed, more change nothing -/
theorem rulesF_more {s : Int} : ∀ (k j : Nat) {M : zM}, Inv M → 0 ≤ s ∧ s < M 64 0 → muI M s < (k : Int) → k ≤ j → rulesF s j M = rulesF s k M
  | 0, j, M, hI, hs, h, _ => by
    have hn := hI.1
    have := muI_rng hI (s := s) (by omega)
    omega
  | k + 1, j, M, hI, hs, h, hj => by
    have hn := hI.1
    obtain ⟨j', rfl⟩ : ∃ j', j = j' + 1 := ⟨j - 1, by omega⟩
    rw [rulesF, rulesF]
    split
    · rfl
    · rename_i h5
      cases e : fitsM M s with
      | none => rfl
      | some M' =>
        have g := Gd_fits hI hs (by omega) (by omega) e
        have t := Nx_tick g.1.1 (s := s) (by omega)
        exact rulesF_more k j' t.1.1 (by rw [t.1.2.1.1, g.1.2.1.1]; exact hs) (by have := g.2; omega) (by omega)
