theorem bring_le {M : zM} (hI : Inv M) : (bringM M).1 64 7 ≤ (turnsM M).1 64 7 := by
  by_cases c : (bringM M).2 ≠ 0
  · rw [turns_t c]
    exact Int.le_refl _
  · rw [turns_f hI c]
    exact (Nx_ringT (Nx_bring hI).1.1).1.2.2.2.2
theorem fair_le {Y : zM} {n : Nat} {d : Int} (hI : Inv Y) (hn : 0 < n) : (turnsM Y).1 64 7 ≤ (fairF n d Y).1 64 7 := by
  have t := Nx_turns hI
  by_cases c : (turnsM Y).2 ≠ 0
  · rw [fairF_t hn c]
    exact (Nx_fair _ _ t.1.1).2.2.2.2
  · rw [fairF_f hn c]
    exact Int.le_refl _
