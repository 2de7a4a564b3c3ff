/-! ===== the public calls, as functions of the memory ===== -/
def beginS : Nat → Nat → zM → zM
  | 0, _, M => M
  | k + 1, t, M => if M 65 t = 0 then beginS k (t + 1) (rulesM (startsM M t 0) t) else beginS k (t + 1) M
def beginM (M : zM) : zM := beginS (M 64 0).toNat 0 (up M 64 2 1)
def brS (l : Int) : Nat → Nat → zM → Int → zM × Int
  | 0, _, M, b => (M, b)
  | k + 1, t, M, b => if M 65 t = 0 ∧ M 70 (7 * l + (t : Int)) = 0 then brS l k (t + 1) (comesM M l t) 1 else brS l k (t + 1) M b
def brL : Nat → Nat → zM → Int → zM × Int
  | 0, _, M, b => (M, b)
  | k + 1, l, M, b => if (l : Int) < M 64 7 then brL k (l + 1) (brS l (M 64 0).toNat 0 M b).1 (brS l (M 64 0).toNat 0 M b).2 else (M, b)
def rgK (s : Int) : Nat → Nat → zM → Int → zM × Int
  | 0, _, M, b => (M, b)
  | k + 1, t, M, b => if M 67 (20 * s + (11 + (t : Int))) = 1 then rgK s k (t + 1) (endsM M s t) 1 else rgK s k (t + 1) M b
def rgS : Nat → Nat → zM → Int → zM × Int
  | 0, _, M, b => (M, b)
  | k + 1, t, M, b => rgS k (t + 1) (rgK t 3 0 M b).1 (rgK t 3 0 M b).2
def bringM (M : zM) : zM × Int := brL 401 0 M 0
def turnsM (M : zM) : zM × Int := if (bringM M).2 ≠ 0 then ((bringM M).1, 1) else rgS (M 64 0).toNat 0 (bringM M).1 0
def fairF : Nat → Int → zM → zM × Int
  | 0, d, M => (M, d)
  | k + 1, d, M => if (turnsM M).2 ≠ 0 then fairF k (d + 1) (turnsM M).1 else ((turnsM M).1, d)
theorem Nx_came {M : zM} {l s : Int} (hI : Inv M) (hl : 0 ≤ l ∧ l < M 64 7) (hs : 0 ≤ s ∧ s < M 64 0) : Nx M (up M 70 (7 * l + s) 1) := by
  have hn := hI.1
  have e : ∀ i, i ≠ 70 → up M 70 (7 * l + s) 1 i = M i := fun i h => up_cell _ _ _ h
  refine ⟨⟨by rw [e 64 (by decide)]; exact hI.1, by rw [e 64 (by decide)]; exact hI.2.1, by rw [e 64 (by decide)]; exact hI.2.2.1, by rw [e 64 (by decide)]; exact hI.2.2.2.1, fun t a b => ?_, fun l' a b => ?_, fun t v a b c d => by rw [e 66 (by decide)]; exact hI.2.2.2.2.2.2 t v a b c d⟩, by rw [e 64 (by decide)]; exact ⟨rfl, rfl, rfl⟩, e 65 (by decide), e 66 (by decide), by rw [e 64 (by decide)]; exact Int.le_refl _⟩
  · unfold SeatI DecI
    rw [e 65 (by decide), e 67 (by decide), e 68 (by decide)]
    exact hI.2.2.2.2.1 t a b
  · rw [e 64 (by decide)] at b
    obtain ⟨q1, q2⟩ := hI.2.2.2.2.2.1 l' a b
    refine ⟨?_, ?_⟩
    · unfold LetI
      rw [e 69 (by decide), e 64 (by decide)]
      exact q1
    · intro t c d
      rw [e 64 (by decide)]
      have q := q2 t c d
      unfold up
      by_cases h : 7 * l' + t = 7 * l + s
      · rw [if_pos ⟨rfl, h⟩]
        exact ⟨Or.inr rfl, fun g => by omega⟩
      · rw [if_neg (fun z => h z.2)]
        exact q
theorem Nx_comes {M : zM} {l s : Int} (hI : Inv M) (hl : 0 ≤ l ∧ l < M 64 7) (hs : 0 ≤ s ∧ s < M 64 0) : Nx M (comesM M l s) :=
  (Nx_came hI hl hs).tr (Nx_rules (Nx_came hI hl hs).1 (by rw [(Nx_came hI hl hs).2.1.1]; exact hs))
theorem Nx_tim0 {M : zM} {s k : Int} (hI : Inv M) (h0 : 0 ≤ s ∧ s < 7) (hk : 0 ≤ k ∧ k < 3) : Nx M (setM M s (11 + k) 0) := by
  refine Nx_set hI h0 (by omega) ?_
  have q := (hI.2.2.2.2.1 s h0.1 h0.2).1
  unfold SeatI at q ⊢
  rw [setM_o _ _ _ _ _ (by decide)]
  obtain ⟨q1, q2, q3, q4, q5, q6, q7, q8, q9, q10, q11, q12, q13, q14, q15, q16, q17, q18, q19⟩ := q
  rcases (show k = 0 ∨ k = 1 ∨ k = 2 by omega) with rfl | rfl | rfl
  · simp only [setM_at, q20, Int.reduceAdd, Int.reduceEq, ↓reduceIte]
    exact ⟨q1, q2, q3, q4, q5, q6, q7, q8, q9, q10, q11, q12, Or.inl trivial, q14, q15, fun h => h.elim, q17, q18, fun h => ⟨trivial, (q19 h).2⟩⟩
  · simp only [setM_at, q20, Int.reduceAdd, Int.reduceEq, ↓reduceIte]
    exact ⟨q1, q2, q3, q4, q5, q6, q7, q8, q9, q10, q11, q12, q13, Or.inl trivial, q15, q16, fun h => h.elim, q18, fun h => ⟨(q19 h).1, trivial, (q19 h).2.2⟩⟩
  · simp only [setM_at, q20, Int.reduceAdd, Int.reduceEq, ↓reduceIte]
    exact ⟨q1, q2, q3, q4, q5, q6, q7, q8, q9, q10, q11, q12, q13, q14, Or.inl trivial, q16, q17, fun h => h.elim, fun h => ⟨(q19 h).1, (q19 h).2.1, trivial⟩⟩
/-- a timer is set only where the seat is not false, and its height is not past the last -/
theorem tim_set {M : zM} {s k : Int} (hI : Inv M) (h0 : 0 ≤ s ∧ s < 7) (hk : 0 ≤ k ∧ k < 3) (h : M 67 (20 * s + (11 + k)) ≠ 0) : M 65 s = 0 ∧ M 67 (20 * s + 0) ≤ 5 ∧ M 67 (20 * s + (11 + k)) = 1 ∧ 0 ≤ M 67 (20 * s + (14 + k)) ∧ M 67 (20 * s + (14 + k)) ≤ 69 := by
  have q := (hI.2.2.2.2.1 s h0.1 h0.2).1
  unfold SeatI at q
  obtain ⟨q1, q2, q3, q4, q5, q6, q7, q8, q9, q10, q11, q12, q13, q14, q15, q16, q17, q18, q19⟩ := q
  have hn : ¬ (M 65 s = 1 ∨ 5 < M 67 (20 * s + 0)) := fun g => by
    obtain ⟨a, b, c⟩ := q19 g
    rcases (show k = 0 ∨ k = 1 ∨ k = 2 by omega) with rfl | rfl | rfl
    · exact h a
    · exact h b
    · exact h c
  have hf : M 65 s = 0 := q1.resolve_right (fun g => hn (Or.inl g))
  have hh : M 67 (20 * s + 0) ≤ 5 := Int.not_lt.mp (fun g => hn (Or.inr g))
  rcases (show k = 0 ∨ k = 1 ∨ k = 2 by omega) with rfl | rfl | rfl
  · have e := q13.resolve_left h
    exact ⟨hf, hh, e, q16 e⟩
  · have e := q14.resolve_left h
    exact ⟨hf, hh, e, q17 e⟩
  · have e := q15.resolve_left h
    exact ⟨hf, hh, e, q18 e⟩
theorem Nx_ring {M : zM} {s k : Int} (hI : Inv M) (hs : 0 ≤ s ∧ s < M 64 0) (hk : 0 ≤ k ∧ k < 3) (hf : M 65 s = 0) (hh : M 67 (20 * s + 0) ≤ 5) : Nx M (ringM M s k) := by
  have hn := hI.1
  have h0 : 0 ≤ s ∧ s < 7 := by omega
  have a := Nx_tim0 hI h0 hk
  have e0 : setM M s (11 + k) 0 67 (20 * s + 0) = M 67 (20 * s + 0) := setM_ne _ _ _ _ _ (by omega)
  have e1 : setM M s (11 + k) 0 67 (20 * s + 1) = M 67 (20 * s + 1) := setM_ne _ _ _ _ _ (by omega)
  have hr := seat_rng hI h0
  have hs' : 0 ≤ s ∧ s < setM M s (11 + k) 0 64 0 := by rw [a.2.1.1]; exact hs
  unfold ringM
  split
  · split
    · exact a.tr (Nx_casts a.1 hs' (by omega) (by omega) (by omega))
    · split
      · exact a.tr (Nx_casts a.1 hs' (by omega) (by omega) (by omega))
      · split
        · exact a.tr (Nx_starts a.1 hs' (by rw [a.2.2.1]; exact hf) (by omega) (by omega))
        · exact a
  · exact a
theorem Nx_ends {M : zM} {s k : Int} (hI : Inv M) (hs : 0 ≤ s ∧ s < M 64 0) (hk : 0 ≤ k ∧ k < 3) (hf : M 65 s = 0) (hh : M 67 (20 * s + 0) ≤ 5) : Nx M (endsM M s k) :=
  (Nx_ring hI hs hk hf hh).tr (Nx_rules (Nx_ring hI hs hk hf hh).1 (by rw [(Nx_ring hI hs hk hf hh).2.1.1]; exact hs))
theorem Nx_brS {l : Int} : ∀ (k t : Nat) {M : zM} {b : Int}, Inv M → 0 ≤ l ∧ l < M 64 7 → (t : Int) + (k : Int) ≤ M 64 0 → (b = 0 ∨ b = 1) → Nx M (brS l k t M b).1 ∧ ((brS l k t M b).2 = 0 ∨ (brS l k t M b).2 = 1)
  | 0, t, M, b, hI, hl, hk, hb => ⟨Nx.rf hI, hb⟩
  | k + 1, t, M, b, hI, hl, hk, hb => by
    rw [brS]
    split
    · have c := Nx_comes hI hl (s := (t : Int)) (by omega)
      have d := Nx_brS k (t + 1) c.1 (l := l) (b := 1) ⟨hl.1, by have := c.2.2.2.2; omega⟩ (by rw [c.2.1.1]; omega) (Or.inr rfl)
      exact ⟨c.tr d.1, d.2⟩
    · exact Nx_brS k (t + 1) hI hl (by omega) hb
theorem Nx_brL : ∀ (k l : Nat) {M : zM} {b : Int}, Inv M → (b = 0 ∨ b = 1) → Nx M (brL k l M b).1 ∧ ((brL k l M b).2 = 0 ∨ (brL k l M b).2 = 1)
  | 0, l, M, b, hI, hb => ⟨Nx.rf hI, hb⟩
  | k + 1, l, M, b, hI, hb => by
    rw [brL]
    split
    · have hn := hI.1
      have c := Nx_brS (M 64 0).toNat 0 (l := (l : Int)) hI (by omega) (by omega) hb
      have d := Nx_brL k (l + 1) c.1.1 c.2
      exact ⟨c.1.tr d.1, d.2⟩
    · exact ⟨Nx.rf hI, hb⟩
theorem Nx_rgK {s : Int} : ∀ (k t : Nat) {M : zM} {b : Int}, Inv M → 0 ≤ s ∧ s < M 64 0 → t + k ≤ 3 → (b = 0 ∨ b = 1) → Nx M (rgK s k t M b).1 ∧ ((rgK s k t M b).2 = 0 ∨ (rgK s k t M b).2 = 1)
  | 0, t, M, b, hI, hs, hk, hb => ⟨Nx.rf hI, hb⟩
  | k + 1, t, M, b, hI, hs, hk, hb => by
    rw [rgK]
    split
    · rename_i h
      have hn := hI.1
      have q := tim_set hI (s := s) (k := (t : Int)) (by omega) (by omega) (by rw [h]; decide)
      have c := Nx_ends hI hs (k := (t : Int)) (by omega) q.1 q.2.1
      have d := Nx_rgK k (t + 1) c.1 (b := 1) (by rw [c.2.1.1]; exact hs) (by omega) (Or.inr rfl)
      exact ⟨c.tr d.1, d.2⟩
    · exact Nx_rgK k (t + 1) hI hs (by omega) hb
theorem Nx_rgS : ∀ (k t : Nat) {M : zM} {b : Int}, Inv M → (t : Int) + (k : Int) ≤ M 64 0 → (b = 0 ∨ b = 1) → Nx M (rgS k t M b).1 ∧ ((rgS k t M b).2 = 0 ∨ (rgS k t M b).2 = 1)
  | 0, t, M, b, hI, hk, hb => ⟨Nx.rf hI, hb⟩
  | k + 1, t, M, b, hI, hk, hb => by
    rw [rgS]
    have c := Nx_rgK (s := (t : Int)) 3 0 hI (by omega) (by omega) hb
    have d := Nx_rgS k (t + 1) c.1.1 (by rw [c.1.2.1.1]; omega) c.2
    exact ⟨c.1.tr d.1, d.2⟩
theorem Nx_bring {M : zM} (hI : Inv M) : Nx M (bringM M).1 ∧ ((bringM M).2 = 0 ∨ (bringM M).2 = 1) := Nx_brL 401 0 hI (Or.inl rfl)
theorem Nx_turns {M : zM} (hI : Inv M) : Nx M (turnsM M).1 ∧ ((turnsM M).2 = 0 ∨ (turnsM M).2 = 1) := by
  have a := Nx_bring hI
  have hn := hI.1
  unfold turnsM
  split
  · exact ⟨a.1, Or.inr rfl⟩
  · have d := Nx_rgS (M 64 0).toNat 0 a.1.1 (b := 0) (by rw [a.1.2.1.1]; omega) (Or.inl rfl)
    exact ⟨a.1.tr d.1, d.2⟩
theorem Nx_fair : ∀ (k : Nat) (d : Int) {M : zM}, Inv M → Nx M (fairF k d M).1
  | 0, d, M, hI => Nx.rf hI
  | k + 1, d, M, hI => by
    rw [fairF]
    have a := Nx_turns hI
    split
    · exact a.1.tr (Nx_fair k (d + 1) a.1.1)
    · exact a.1
/-- other seats' numbers stay -/
def Fx (M M' : zM) (s : Int) : Prop := ∀ j : Int, ¬ (20 * s ≤ j ∧ j < 20 * s + 20) → M' 67 j = M 67 j
theorem Fx.rf (M : zM) (s : Int) : Fx M M s := fun _ _ => rfl
theorem Fx.tr {M M' M'' : zM} {s : Int} (h : Fx M M' s) (h' : Fx M' M'' s) : Fx M M'' s := fun j hj => (h' j hj).trans (h j hj)
theorem Fx_set (M : zM) {s k : Int} (v : Int) (hk : 0 ≤ k ∧ k < 20) : Fx M (setM M s k v) s := fun j hj => setM_ne _ _ _ _ _ (by omega)
theorem Fx_sends (M : zM) (x s kd h r v vr own : Int) : Fx M (sendsM M s kd h r v vr own) x := fun j _ => sendsM_c67 _ _ _ _ _ _ _ _ _
theorem Fx_casts (M : zM) (s kd v : Int) : Fx M (castsM M s kd v) s := fun j hj => castsM_ne _ _ _ _ _ (by omega)
theorem Fx_timer (M : zM) {s k : Int} (hk : 0 ≤ k ∧ k ≤ 2) : Fx M (setTimerM M s k) s := fun j hj => by rw [setTimerM_at M hk.1, if_neg (by omega), if_neg (by omega)]
theorem Fx_enter (M : zM) (s r : Int) : Fx M (enterM M s r) s := fun j hj => enterM_ne _ _ _ _ (by omega)
theorem Fx_starts (M : zM) (s r : Int) : Fx M (startsM M s r) s := by
  unfold startsM
  split
  · exact Fx_set _ _ (by omega)
  · split
    · exact (Fx_enter M s r).tr (Fx_timer _ (by omega))
    · split
      · exact (Fx_enter M s r).tr (Fx_sends _ _ _ _ _ _ _ _ _)
      · exact (Fx_enter M s r).tr (Fx_sends _ _ _ _ _ _ _ _ _)
theorem Fx_dodec (M : zM) (s r v : Int) : Fx M (dodecM M s r v) s := by
  have e : Fx M (endM M s r v) s := fun j hj => by rw [endM_at, if_neg (by omega), if_neg (by omega), if_neg (by omega), if_neg (by omega), if_neg (by omega), if_neg (by omega), if_neg (by omega)]
  unfold dodecM
  split
  · exact e
  · exact e.tr (Fx_starts _ _ _)
theorem Fx_decF {M M' : zM} {s : Int} : ∀ (k r : Nat), decF M s k r = some M' → Fx M M' s
  | 0, r, h => by cases h
  | k + 1, r, h => by
    rw [decF] at h
    cases e : fstB (supP M s r 2) (M 64 7).toNat 0 with
    | none => rw [e] at h; exact Fx_decF k (r + 1) h
    | some l => rw [e] at h; cases h; exact Fx_dodec _ _ _ _
theorem Fx_jmpF {M M' : zM} {s : Int} : ∀ (k : Nat), jmpF M s k = some M' → Fx M M' s
  | 0, h => by cases h
  | k + 1, h => by
    rw [jmpF] at h
    split at h
    · cases h; exact Fx_starts _ _ _
    · exact Fx_jmpF k h
theorem Fx_fits {M M' : zM} {s : Int} (h : fitsM M s = some M') : Fx M M' s := by
  rcases orM_some h with h | h
  · exact Fx_decF _ _ h
  · rcases orM_some h with h | h
    · exact Fx_jmpF _ h
    · rcases orM_some h with h | h
      · unfold prevotesM at h
        split at h
        · cases h
        · cases e : fstB (newP M s) (M 64 7).toNat 0 with
          | some l => rw [e] at h; cases h; exact Fx_casts _ _ _ _
          | none =>
            rw [e] at h
            change prevOldM M s = some M' at h
            unfold prevOldM at h
            cases e3 : fstB (oldP M s) (M 64 7).toNat 0 with
            | none => rw [e3] at h; cases h
            | some l => rw [e3] at h; cases h; exact Fx_casts _ _ _ _
      · rcases orM_some h with h | h
        · unfold locksM at h
          split at h
          · cases h
          · cases e : fstB (supP M s (M 67 (20 * s + 1)) 1) (M 64 7).toNat 0 with
            | none => rw [e] at h; cases h
            | some l =>
              rw [e] at h
              cases h
              unfold doLockM
              split
              · exact (Fx_set _ _ (by omega)).tr ((Fx_set _ _ (by omega)).tr ((Fx_set _ _ (by omega)).tr ((Fx_casts _ _ _ _).tr ((Fx_set _ _ (by omega)).tr (Fx_set _ _ (by omega))))))
              · exact (Fx_set _ _ (by omega)).tr ((Fx_set _ _ (by omega)).tr (Fx_set _ _ (by omega)))
        · rcases orM_some h with h | h
          · unfold nilM at h
            split at h
            · cases h; exact Fx_casts _ _ _ _
            · cases h
          · rcases orM_some h with h | h
            · unfold tim1M at h
              split at h
              · cases h; exact (Fx_set _ _ (by omega)).tr (Fx_timer _ (by omega))
              · cases h
            · unfold tim2M at h
              split at h
              · cases h; exact (Fx_set _ _ (by omega)).tr (Fx_timer _ (by omega))
              · cases h
theorem Fx_rulesF {s : Int} : ∀ (k : Nat) (M : zM), Fx M (rulesF s k M) s
  | 0, M => Fx.rf M s
  | k + 1, M => by
    rw [rulesF]
    split
    · exact Fx.rf M s
    · cases e : fitsM M s with
      | none => exact Fx.rf M s
      | some M' => exact (Fx_fits e).tr ((Fx_set _ _ (by omega)).tr (Fx_rulesF k _))
theorem Nx_beginS : ∀ (k t : Nat) {M : zM}, Inv M → (t : Int) + (k : Int) ≤ M 64 0 → (∀ s : Int, (t : Int) ≤ s → s < M 64 0 → M 67 (20 * s + 0) ≤ 5) → Nx M (beginS k t M)
  | 0, t, M, hI, hk, h => Nx.rf hI
  | k + 1, t, M, hI, hk, h => by
    rw [beginS]
    have hn := hI.1
    split
    · rename_i hf
      have a := Nx_starts hI (s := (t : Int)) (r := 0) (by omega) hf (h t (by omega) (by omega)) (by omega)
      have b := Nx_rules a.1 (s := (t : Int)) (by rw [a.2.1.1]; omega)
      have c := a.tr b
      refine c.tr (Nx_beginS k (t + 1) b.1 (by rw [c.2.1.1]; omega) (fun s q1 q2 => ?_))
      have f := (Fx_starts M (t : Int) 0).tr (Fx_rulesF fuelR (startsM M (t : Int) 0))
      have e := f (20 * s + 0) (by omega)
      change rulesM (startsM M (t : Int) 0) (t : Int) 67 (20 * s + 0) = _ at e
      rw [e]
      exact h s (by omega) (by rw [c.2.1.1] at q2; exact q2)
    · exact Nx_beginS k (t + 1) hI (by omega) (fun s a b => h s (by omega) b)
/-- before begin() nothing has moved -/
def InvB (M : zM) : Prop := M 64 2 = 0 → M 64 7 = 0 ∧ ∀ s : Int, 0 ≤ s → s < 7 → M 67 (20 * s + 0) = 0 ∧ M 67 (20 * s + 11) = 0 ∧ M 67 (20 * s + 12) = 0 ∧ M 67 (20 * s + 13) = 0
theorem Inv_begun {M : zM} (hI : Inv M) : Inv (up M 64 2 1) := by
  have e : ∀ i, i ≠ 64 → up M 64 2 1 i = M i := fun i h => up_cell _ _ _ h
  have e0 : ∀ j, j ≠ 2 → up M 64 2 1 64 j = M 64 j := fun j h => by simp [up, h]
  refine ⟨by rw [e0 0 (by decide)]; exact hI.1, by rw [e0 1 (by decide)]; exact hI.2.1, Or.inr (up_self _ _ _ _), by rw [e0 7 (by decide)]; exact hI.2.2.2.1, fun t a b => ?_, fun l a b => ?_, fun t v a b c d => by rw [e 66 (by decide)]; exact hI.2.2.2.2.2.2 t v a b c d⟩
  · unfold SeatI DecI
    rw [e 65 (by decide), e 67 (by decide), e 68 (by decide)]
    exact hI.2.2.2.2.1 t a b
  · rw [e0 7 (by decide)] at b
    unfold LetI CamI
    rw [e 69 (by decide), e 70 (by decide), e0 0 (by decide)]
    exact hI.2.2.2.2.2.1 l a b
theorem Inv_begin {M : zM} (hI : Inv M) (hB : InvB M) (h : M 64 2 = 0) : Nx (up M 64 2 1) (beginM M) := by
  have hn := hI.1
  have a := Inv_begun hI
  have e0 : up M 64 2 1 64 0 = M 64 0 := by simp [up]
  refine Nx_beginS _ 0 a (by rw [e0]; omega) (fun s p q => ?_)
  rw [up_cell _ _ _ (show (67 : Nat) ≠ 64 by decide), ((hB h).2 s (by omega) (by omega)).1]
  decide
theorem rulesF_go {s : Int} {k : Nat} {M M' : zM} (hk : 0 < k) (h : ¬ (M 65 s ≠ 0 ∨ 5 < M 67 (20 * s + 0))) (e : fitsM M s = some M') : rulesF s k M = rulesF s (k - 1) (tickM M' s) := by
  cases k with
  | zero => omega
  | succ k => rw [rulesF, if_neg h, e]; rfl
theorem rulesF_end {s : Int} {k : Nat} {M : zM} (hk : 0 < k) (h : M 65 s ≠ 0 ∨ 5 < M 67 (20 * s + 0)) : rulesF s k M = M := by
  cases k with
  | zero => omega
  | succ k => rw [rulesF, if_pos h]
theorem rulesF_no {s : Int} {k : Nat} {M : zM} (h : ¬ (fitsM M s).isSome = true) : rulesF s k M = M := by
  have e : fitsM M s = none := by
    cases e : fitsM M s with
    | none => rfl
    | some x => rw [e] at h; exact absurd rfl h
  cases k with
  | zero => rfl
  | succ k =>
    rw [rulesF, e]
    split <;> rfl
