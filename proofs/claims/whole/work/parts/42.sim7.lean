theorem oL_pos {o : Option Nat} (h : 0 ≤ oL o) : ∃ q, o = some q := by
  cases o with
  | none => exact absurd h (by decide)
  | some q => exact ⟨q, rfl⟩
theorem oL_neg {o : Option Nat} (h : oL o < 0) : o = none := by
  cases o with
  | none => rfl
  | some q => unfold oL at h; simp only at h; omega
theorem supP_val {X : zM} {s r kd : Int} {L q : Nat} (hI : Inv X) (hL : (L : Int) = X 64 7) (h : fstB (supP X s r kd) L 0 = some q) : (q : Int) < X 64 7 ∧ 0 ≤ X 69 (6 * (q : Int) + 4) ∧ X 69 (6 * (q : Int) + 4) ≤ 99 := by
  have a := fstB_some h
  have hq : (q : Int) < X 64 7 := by omega
  have b := a.2.2
  unfold supP propo at b
  simp only [Bool.and_eq_true, decide_eq_true_eq] at b
  have c := (hI.2.2.2.2.2.1 (q : Int) (by omega) hq).1
  exact ⟨hq, c.2.2.2.2.2.1 b.1.1.1.2.1, c.2.2.2.2.1.2⟩
theorem dodec_done {X : zM} {s r v : Int} (h : 5 < endM X s r v 67 (20 * s + 0)) : dodecM X s r v = endM X s r v := if_pos h
theorem dodec_go {X : zM} {s r v : Int} (h : ¬ 5 < endM X s r v 67 (20 * s + 0)) : dodecM X s r v = startsM (clrF (endM X s r v) s) s 0 := by
  rw [startsM_clr]
  exact if_neg h
theorem jN_rng (X : zM) (s r : Int) : 0 ≤ jN X s r ∧ jN X s r ≤ (X 64 0).toNat := cntB_rng _ _
