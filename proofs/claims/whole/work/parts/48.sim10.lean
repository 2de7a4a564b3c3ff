theorem orM_assoc (a b c : Option zM) : orM (orM a b) c = orM a (orM b c) := by cases a <;> rfl
theorem fits8 (Y : zM) (s : Int) : fitsM Y s = orM (decidesM Y s) (orM (jumpsM Y s) (orM (prevN Y s) (orM (prevO Y s) (orM (locksM Y s) (orM (nilM Y s) (orM (tim1M Y s) (tim2M Y s))))))) := by
  unfold fitsM timersM
  rw [prev_or, orM_assoc]
theorem some_getD {o : Option zM} {G : zM} (h : o.isSome = true) : o = some (o.getD G) := by
  cases o with
  | none => cases h
  | some x => rfl
theorem go_step {Y D : zM} {s : Int} (hI : Inv Y) (hs : 0 ≤ s ∧ s < Y 64 0) (hf : Y 65 s = 0) (hh : Y 67 (20 * s + 0) ≤ 5) (e : fitsM Y s = some D) : rulesM Y s = rulesM (tickM D s) s ∧ Nx Y (tickM D s) ∧ muI (tickM D s) s < muI Y s := by
  have g := Gd_fits hI hs hf hh e
  have hn := hI.1
  have t := Nx_tick g.1.1 (s := s) (by omega)
  have n := g.1.tr t.1
  have r := muI_rng n.1 (s := s) (by omega)
  refine ⟨?_, n, by have := g.2; omega⟩
  have a := rulesF_go (k := fuelR) (Nat.zero_lt_succ 9999) (fun z => z.elim (fun y => y hf) (fun y => by omega)) e
  have b := rulesF_more (s := s) (fuelR - 1) fuelR n.1 (by rw [n.2.1.1]; exact hs) (by have e : fuelR = 10000 := rfl; rw [e]; omega) (Nat.sub_le _ _)
  exact a.trans b.symm
theorem go_end {Y : zM} {s : Int} (h : 5 < Y 67 (20 * s + 0)) : rulesM Y s = Y := rulesF_end (k := fuelR) (Nat.zero_lt_succ 9999) (Or.inr h)
theorem go_no {Y : zM} {s : Int} (h : ¬ (fitsM Y s).isSome = true) : rulesM Y s = Y := rulesF_no h
theorem go_le {Y : zM} {s : Int} (hI : Inv Y) (hs : 0 ≤ s ∧ s < Y 64 0) (hf : Y 65 s = 0) (hh : Y 67 (20 * s + 0) ≤ 5) (o : Option zM) (he : o.isSome = true → fitsM Y s = some (o.getD Y)) : (o.getD Y) 64 7 ≤ rulesM Y s 64 7 := by
  by_cases hb : o.isSome = true
  · have g := go_step hI hs hf hh (he hb)
    rw [g.1]
    have z := (Nx_rules g.2.1.1 (s := s) (by rw [g.2.1.2.1.1]; exact hs)).2.2.2.2
    have y : tickM (o.getD Y) s 64 7 = (o.getD Y) 64 7 := by unfold tickM; rw [setM_cell _ _ _ _ (by decide)]
    omega
  · rw [getD_no hb]
    exact (Nx_rules hI hs).2.2.2.2
theorem mU_tick (u : Nat) (D : zM) (s : Int) : mU u (tickM D s) = mU u D := by
  unfold tickM
  exact mU_set _ _ _ _ _
