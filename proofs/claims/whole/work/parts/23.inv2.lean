/-! ===== the public calls keep what always holds ===== -/
def IB (M : zM) : Prop := Inv M ∧ InvB M
theorem IB_nx {M M' : zM} (h : Nx M M') (hb : M 64 2 ≠ 0) : IB M' := ⟨h.1, fun q => absurd (h.2.1.2.2.symm.trans q) hb⟩
theorem IB_false {G : zM} (h : IB G) (s : Int) : IB (mFalse G s) := by
  unfold mFalse
  split
  · exact h
  · split
    · exact h
    · rename_i h1 h2
      obtain ⟨hI, hB⟩ := h
      have hn := hI.1
      have h20 : G 64 2 = 0 := by omega
      have e : ∀ i, i ≠ 65 → up G 65 s 1 i = G i := fun i h => up_cell _ _ _ h
      refine ⟨⟨by rw [e 64 (by decide)]; exact hI.1, by rw [e 64 (by decide)]; exact hI.2.1, by rw [e 64 (by decide)]; exact hI.2.2.1, by rw [e 64 (by decide)]; exact hI.2.2.2.1, fun t a b => ?_, fun l a b => ?_, fun t v a b c d => by rw [e 66 (by decide)]; exact hI.2.2.2.2.2.2 t v a b c d⟩, ?_⟩
      · obtain ⟨q, q'⟩ := hI.2.2.2.2.1 t a b
        obtain ⟨q1, q2, q3, q4, q5, q6, q7, q8, q9, q10, q11, q12, q13, q14, q15, q16, q17, q18, q19⟩ := q
        refine ⟨?_, ?_⟩
        · unfold SeatI
          rw [e 67 (by decide)]
          refine ⟨?_, q2, q3, q4, q5, q6, q7, q8, q9, q10, q11, q12, q13, q14, q15, q16, q17, q18, fun _ => ((hB h20).2 t a b).2⟩
          unfold up
          by_cases z : t = s
          · rw [if_pos ⟨rfl, z⟩]; exact Or.inr rfl
          · rw [if_neg (fun g => z g.2)]; exact q1
        · unfold DecI
          rw [e 68 (by decide), e 67 (by decide)]
          exact q'
      · unfold LetI CamI
        rw [e 69 (by decide), e 70 (by decide), e 64 (by decide)]
        exact hI.2.2.2.2.2.1 l a (by rw [e 64 (by decide)] at b; exact b)
      · unfold InvB
        rw [e 64 (by decide), e 67 (by decide)]
        exact hB
theorem IB_hold {G : zM} (h : IB G) (s v : Int) : IB (mHold G s v) := by
  unfold mHold
  split
  · exact h
  · obtain ⟨hI, hB⟩ := h
    have e : ∀ i, i ≠ 66 → up G 66 (100 * s + v) 1 i = G i := fun i h => up_cell _ _ _ h
    refine ⟨⟨by rw [e 64 (by decide)]; exact hI.1, by rw [e 64 (by decide)]; exact hI.2.1, by rw [e 64 (by decide)]; exact hI.2.2.1, by rw [e 64 (by decide)]; exact hI.2.2.2.1, fun t a b => ?_, fun l a b => ?_, fun t v' a b c d => ?_⟩, ?_⟩
    · unfold SeatI DecI
      rw [e 65 (by decide), e 67 (by decide), e 68 (by decide)]
      exact hI.2.2.2.2.1 t a b
    · unfold LetI CamI
      rw [e 69 (by decide), e 70 (by decide), e 64 (by decide)]
      exact hI.2.2.2.2.2.1 l a (by rw [e 64 (by decide)] at b; exact b)
    · have q := hI.2.2.2.2.2.2 t v' a b c d
      unfold up
      by_cases z : 100 * t + v' = 100 * s + v
      · rw [if_pos ⟨rfl, z⟩]; exact Or.inr rfl
      · rw [if_neg (fun g => z g.2)]; exact q
    · unfold InvB
      rw [e 64 (by decide), e 67 (by decide)]
      exact hB
theorem IB_begin {G : zM} (h : IB G) : IB (mBegin G) := by
  unfold mBegin
  split
  · exact h
  · rename_i h2
    exact IB_nx (Inv_begin h.1 h.2 (by omega)) (by rw [up_self]; decide)
theorem IB_say {G : zM} (h : IB G) (s kd h' r v vr : Int) : IB (mSay G s kd h' r v vr) := by
  unfold mSay
  split
  · exact h
  · split
    · exact h
    · split
      · exact h
      · rename_i h1 h2 h3
        have h1 : okSay G s kd h' r v vr := Classical.not_not.mp h1
        obtain ⟨a, b, c, d, e, f, g⟩ := h1
        refine IB_nx (Nx_sends h.1 (by omega) b c d e f ?_) (by omega)
        split <;> omega
theorem IB_come {G : zM} (h : IB G) (y x : Int) : IB (mCome G y x) := by
  unfold mCome
  split
  · exact h
  · split
    · exact h
    · refine IB_nx (Nx_comes h.1 (by omega) (by omega)) (fun q => ?_)
      have := (h.2 q).1
      omega
theorem IB_end {G : zM} (h : IB G) (x k : Int) : IB (mEnd G x k) := by
  unfold mEnd
  split
  · exact h
  · split
    · exact h
    · rename_i h1 h2
      have hn := h.1.1
      have ht := tim_set h.1 (s := x) (k := k) (by omega) (by omega) h2
      refine IB_nx (Nx_ends h.1 (by omega) (by omega) ht.1 ht.2.1) (fun z => ?_)
      obtain ⟨-, t0, t1, t2⟩ := (h.2 z).2 x (by omega) (by omega)
      rcases (show k = 0 ∨ k = 1 ∨ k = 2 by omega) with rfl | rfl | rfl
      · exact h2 t0
      · exact h2 t1
      · exact h2 t2
theorem IB_fair {G : zM} (h : IB G) (k : Int) : IB (mFair G k) := by
  unfold mFair
  split
  · exact h
  · split
    · exact h
    · rename_i h1 h2
      exact IB_nx (Nx_fair _ _ h.1) h2
/-- a memory made anew -/
theorem IB_anew {G : zM} (hn : 4 ≤ G 64 0 ∧ G 64 0 ≤ 7) (ht : 0 ≤ G 64 1 ∧ G 64 1 ≤ 20) : IB (anewM G) := by
  have e64 : ∀ k, anewM G 64 k = if k = 2 ∨ k = 7 then 0 else G 64 k := fun k => by unfold anewM; rw [if_pos rfl]
  have e65 : ∀ k, 0 ≤ k → k < 7 → anewM G 65 k = 0 := fun k a b => by unfold anewM; rw [if_neg (by decide), if_pos rfl, if_pos ⟨a, b⟩]
  have e66 : ∀ k, 0 ≤ k → k < 700 → anewM G 66 k = 0 := fun k a b => by unfold anewM; rw [if_neg (by decide), if_neg (by decide), if_pos rfl, if_pos ⟨a, b⟩]
  have e67 : ∀ k, 0 ≤ k → k < 140 → anewM G 67 k = if k % 20 = 3 ∨ k % 20 = 5 then -1 else 0 := fun k a b => by unfold anewM; rw [if_neg (by decide), if_neg (by decide), if_neg (by decide), if_pos rfl, if_pos ⟨a, b⟩]
  have e68 : ∀ k, 0 ≤ k → k < 84 → k % 2 = 0 → anewM G 68 k = -1 := fun k a b c => by unfold anewM; rw [if_neg (by decide), if_neg (by decide), if_neg (by decide), if_neg (by decide), if_pos rfl, if_pos ⟨a, b, c⟩]
  have z : ∀ s k : Int, 0 ≤ s → s < 7 → 0 ≤ k → k < 20 → k ≠ 3 → k ≠ 5 → anewM G 67 (20 * s + k) = 0 := fun s k a b c d f g => by rw [e67 _ (by omega) (by omega), if_neg (by omega)]
  have m : ∀ s k : Int, 0 ≤ s → s < 7 → k = 3 ∨ k = 5 → anewM G 67 (20 * s + k) = -1 := fun s k a b c => by rw [e67 _ (by omega) (by omega), if_pos (by omega)]
  refine ⟨⟨by rw [e64, if_neg (by decide)]; exact hn, by rw [e64, if_neg (by decide)]; exact ht, by rw [e64, if_pos (by decide)]; exact Or.inl rfl, by rw [e64, if_pos (by decide)]; decide, fun t a b => ⟨?_, ?_⟩, fun l a b => ?_, fun t v a b c d => Or.inl (e66 _ (by omega) (by omega))⟩, fun _ => ⟨by rw [e64, if_pos (by decide)], fun s a b => ⟨z s 0 a b (by decide) (by decide) (by decide) (by decide), z s 11 a b (by decide) (by decide) (by decide) (by decide), z s 12 a b (by decide) (by decide) (by decide) (by decide), z s 13 a b (by decide) (by decide) (by decide) (by decide)⟩⟩⟩
  · unfold SeatI
    rw [e65 t a b, z t 0 a b (by decide) (by decide) (by decide) (by decide), z t 1 a b (by decide) (by decide) (by decide) (by decide), z t 2 a b (by decide) (by decide) (by decide) (by decide), m t 3 a b (Or.inl rfl), z t 4 a b (by decide) (by decide) (by decide) (by decide), m t 5 a b (Or.inr rfl), z t 6 a b (by decide) (by decide) (by decide) (by decide), z t 7 a b (by decide) (by decide) (by decide) (by decide), z t 8 a b (by decide) (by decide) (by decide) (by decide), z t 9 a b (by decide) (by decide) (by decide) (by decide), z t 10 a b (by decide) (by decide) (by decide) (by decide), z t 11 a b (by decide) (by decide) (by decide) (by decide), z t 12 a b (by decide) (by decide) (by decide) (by decide), z t 13 a b (by decide) (by decide) (by decide) (by decide), z t 14 a b (by decide) (by decide) (by decide) (by decide), z t 15 a b (by decide) (by decide) (by decide) (by decide), z t 16 a b (by decide) (by decide) (by decide) (by decide)]
    decide
  · intro h c d
    rw [e68 _ (by omega) (by omega) (by omega), z t 0 a b (by decide) (by decide) (by decide) (by decide)]
    omega
  · rw [e64, if_pos (by decide)] at b
    omega
theorem IB_seats {G : zM} (h : IB G) (c : Int) : IB (mSeats G c) := by
  unfold mSeats
  split
  · exact h
  · split
    · exact h
    · rename_i h1 h2
      have ht := h.1.2.1
      have e0 : up (up G 64 1 (G 64 1 + 1)) 64 0 c 64 0 = c := up_self _ _ _ _
      have e1 : up (up G 64 1 (G 64 1 + 1)) 64 0 c 64 1 = G 64 1 + 1 := by simp [up]
      exact IB_anew (by rw [e0]; omega) (by rw [e1]; omega)
