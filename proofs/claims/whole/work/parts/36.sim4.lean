theorem wA_3 (X : zM) (s H r : Int) (L t : Nat) : (wA X s H r L t 3 || anyB (wK X s H r 3 t) 0) = true ↔ anyB (wK X s H r 0 t) L = true ∨ anyB (wK X s H r 1 t) L = true ∨ anyB (wK X s H r 2 t) L = true := by
  have e : (wA X s H r L t 3 || anyB (wK X s H r 3 t) 0) = ((((false || anyB (wK X s H r 0 t) L) || anyB (wK X s H r 1 t) L) || anyB (wK X s H r 2 t) L) || false) := rfl
  rw [e]
  generalize anyB (wK X s H r 0 t) L = a
  generalize anyB (wK X s H r 1 t) L = b
  generalize anyB (wK X s H r 2 t) L = c
  revert a b c
  decide
theorem wK_jP {X : zM} {s r : Int} (hI : Inv X) (hh : 0 ≤ X 67 (20 * s + 0) ∧ X 67 (20 * s + 0) ≤ 5) (hr : 0 ≤ r ∧ r ≤ 9) {k : Nat} (hk : k ≤ 2) {t l : Nat} (hl : (l : Int) < X 64 7) (h : wK X s (X 67 (20 * s + 0)) r k t l = true) : jP X s r t l = true := by
  unfold wK at h
  rw [decide_eq_true_eq] at h
  have e := (slotL_eq hI hl (kd := (k : Int)) (h' := X 67 (20 * s + 0)) (r := r) ⟨by omega, by omega⟩ hh hr).mp h.1
  unfold jP
  rw [decide_eq_true_eq]
  exact ⟨h.2.1, h.2.2, e.2.1, e.2.2⟩
theorem jP_wK {X : zM} {s r : Int} {k t l : Nat} (hk : X 69 (6 * (l : Int) + 1) = (k : Int)) (h : jP X s r t l = true) : wK X s (X 67 (20 * s + 0)) r k t l = true := by
  unfold jP at h
  rw [decide_eq_true_eq] at h
  unfold wK
  rw [decide_eq_true_eq]
  exact ⟨by unfold slotL; rw [hk, h.2.2.1, h.2.2.2], h.1, h.2.1⟩
theorem wA_jP {X : zM} {s r : Int} (hI : Inv X) (hh : 0 ≤ X 67 (20 * s + 0) ∧ X 67 (20 * s + 0) ≤ 5) (hr : 0 ≤ r ∧ r ≤ 9) (t : Nat) : (wA X s (X 67 (20 * s + 0)) r (X 64 7).toNat t 3 || anyB (wK X s (X 67 (20 * s + 0)) r 3 t) 0) = anyB (jP X s r t) (X 64 7).toNat := by
  rw [Bool.eq_iff_iff]
  refine (wA_3 _ _ _ _ _ _).trans ?_
  rw [anyB_iff, anyB_iff, anyB_iff, anyB_iff]
  constructor
  · rintro (⟨l, a, b⟩ | ⟨l, a, b⟩ | ⟨l, a, b⟩)
    · exact ⟨l, a, wK_jP hI hh hr (k := 0) (by decide) (by omega) b⟩
    · exact ⟨l, a, wK_jP hI hh hr (k := 1) (by decide) (by omega) b⟩
    · exact ⟨l, a, wK_jP hI hh hr (k := 2) (by decide) (by omega) b⟩
  · rintro ⟨l, a, b⟩
    have lr := let_rng hI (l := (l : Int)) ⟨by omega, by omega⟩
    rcases (show X 69 (6 * (l : Int) + 1) = 0 ∨ X 69 (6 * (l : Int) + 1) = 1 ∨ X 69 (6 * (l : Int) + 1) = 2 by omega) with e | e | e
    · exact Or.inl ⟨l, a, jP_wK (k := 0) e b⟩
    · exact Or.inr (Or.inl ⟨l, a, jP_wK (k := 1) e b⟩)
    · exact Or.inr (Or.inr ⟨l, a, jP_wK (k := 2) e b⟩)
theorem wM_jN {X : zM} {s r : Int} (hI : Inv X) (hh : 0 ≤ X 67 (20 * s + 0) ∧ X 67 (20 * s + 0) ≤ 5) (hr : 0 ≤ r ∧ r ≤ 9) : popZ (wM X s (X 67 (20 * s + 0)) r (X 64 7).toNat 3 0) = jN X s r := by
  have hn := hI.1
  have e : wM X s (X 67 (20 * s + 0)) r (X 64 7).toNat 3 0 = msk (fun t => anyB (jP X s r t) (X 64 7).toNat) 7 := msk_congr (P := fun t => wA X s (X 67 (20 * s + 0)) r (X 64 7).toNat t 3 || anyB (wK X s (X 67 (20 * s + 0)) r 3 t) 0) (fun t _ => wA_jP hI hh hr t)
  rw [e, msk_pop]
  unfold jN
  refine cntB_cut (by omega) ?_
  intro t a b c
  rw [anyB_iff] at c
  obtain ⟨l, hl, c⟩ := c
  unfold jP at c
  rw [decide_eq_true_eq] at c
  have := let_rng hI (l := (l : Int)) ⟨by omega, by omega⟩
  have := c.2.1
  omega
