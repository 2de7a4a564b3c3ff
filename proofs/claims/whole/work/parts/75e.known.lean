theorem w_aoL : Cond.arrayOver (.object "LockedChain$Letter") ∈ tables_1 := List.mem_of_getElem? (i := 38) (by decide +kernel)
theorem w_aoS : Cond.arrayOver (.object "LockedChain$Seat") ∈ tables_1 := List.mem_of_getElem? (i := 66) (by decide +kernel)
theorem w_n0 : Cond.methodLinkNest RX4 27 yX7_slot "LockedChain" ∈ tables_1 := List.mem_of_getElem? (i := 294) (by decide +kernel)
theorem w_n1 : Cond.methodLinkNest RX4 31 yX2_init "LockedChain" ∈ tables_1 := List.mem_of_getElem? (i := 298) (by decide +kernel)
theorem w_n2 : Cond.methodLinkNest RX7 9 yX1_init "LockedChain" ∈ tables_1 := List.mem_of_getElem? (i := 23) (by decide +kernel)
theorem w_n3 : Cond.methodLinkNest RX7 18 yX4_init "LockedChain" ∈ tables_1 := List.mem_of_getElem? (i := 33) (by decide +kernel)
theorem w_n4 : Cond.methodLinkNest RX6 11 yX3_init "LockedChain" ∈ tables_1 := List.mem_of_getElem? (i := 74) (by decide +kernel)
theorem w_n5 : Cond.methodLinkNest RX6 23 yX0_init "LockedChain" ∈ tables_1 := List.mem_of_getElem? (i := 91) (by decide +kernel)
theorem X00_rng : zRng X00 := by
  intro i k
  have z := zR0_rng i k
  unfold X00 anewM
  repeat' split
  all_goals first | exact z | omega
theorem made_Ls {w : zW} {H0 H : Heap} {locs : List Loc} (hZ : Xs w (aL w) H0 71 (xj (xu (xj (xu x0 0 (.inr (7, [.null, .null, .null, .null, .int 0, .int 0]))) (xz w 0 64 (LG 7))) 64 (.inr (8, [.int 0, .int 0, .int 0, .null, .null, .null, .null, .int 0, .null, .null]))) (xz w 64 71 X00)) H locs) : Ls w H0 0 (LG 7) X00 H locs := by
  refine ⟨Xs_Zs hZ (LG_rng 7) (fun i hi => ?_), ⟨X00_rng, fun i hi => ?_⟩⟩
  · have h64 : i < 64 := by unfold dC at hi; omega
    refine xj_x (if_neg (by omega)) ?_
    rw [xu_ne _ _ (by omega)]
    exact xj_y (if_pos ⟨Nat.zero_le _, h64⟩)
  · exact hZ.2.1 i _ (xj_y (if_pos hi))
theorem w_known {s : State} {A : Array Value} (hts : ∀ v ∈ lw_tbl, v.before A s = true) : ∃ w : zW, w.2.1 = s.heap.size ∧ zK7 w s := by
  obtain ⟨c0, i0, k0⟩ := u_known (C := RX0) (T := TX0) (N := 2) (n := 2) hts inX0 (hts (.instantiable RX0 2) (wsL_law_in _ (by decide +kernel)))
  obtain ⟨c1, i1, k1⟩ := u_known (C := RX1) (T := TX1) (N := 1) (n := 1) hts inX1 (hts (.instantiable RX1 1) (wsL_law_in _ (by decide +kernel)))
  obtain ⟨c2, i2, k2⟩ := u_known (C := RX2) (T := TX2) (N := 8) (n := 8) hts inX2 (hts (.instantiable RX2 8) (wsL_law_in _ (by decide +kernel)))
  obtain ⟨c3, i3, k3⟩ := u_known (C := RX3) (T := TX3) (N := 2) (n := 2) hts inX3 (hts (.instantiable RX3 2) (wsL_law_in _ (by decide +kernel)))
  obtain ⟨c4, i4, k4⟩ := u_known (C := RX4) (T := TX4) (N := 4) (n := 4) hts inX4 (hts (.instantiable RX4 4) (wsL_law_in _ (by decide +kernel)))
  obtain ⟨c5, i5, k5⟩ := u_known (C := RX5) (T := TX5) (N := 2) (n := 2) hts inX5 (hts (.instantiable RX5 2) (wsL_law_in _ (by decide +kernel)))
  obtain ⟨c6, i6, k6⟩ := u_known (C := RX6) (T := TX6) (N := 15) (n := 15) hts inX6 (hts (.instantiable RX6 15) (wsL_law_in _ (by decide +kernel)))
  obtain ⟨c7, i7, k7⟩ := u_known (C := RX7) (T := TX7) (N := 6) (n := 6) hts inX7 (hts (.instantiable RX7 6) (wsL_law_in _ (by decide +kernel)))
  obtain ⟨c8, i8, k8⟩ := u_known (C := RX8) (T := TX8) (N := 10) (n := 10) hts inX8 (hts (.instantiable RX8 10) (wsL_law_in _ (by decide +kernel)))
  obtain ⟨cI, kI, pI, nI, hI, dI⟩ := Cond.arrayClass_spec (hts (.arrayClass .int) (wsL_law_in _ (by decide +kernel)))
  obtain ⟨cB, kB, pB, nB, hB, dB⟩ := Cond.arrayClass_spec (hts (.arrayClass .boolean) (wsL_law_in _ (by decide +kernel)))
  have aL : (Cond.arrayOver (.object "LockedChain$Letter")).before A s = true := hts _ (List.mem_append_right _ w_aoL)
  have aS : (Cond.arrayOver (.object "LockedChain$Seat")).before A s = true := hts _ (List.mem_append_right _ w_aoS)
  obtain ⟨pL, cL, kL, fL, -, hL, dL, nL⟩ := Cond.arrayOver_spec aL
  obtain ⟨pS, cS, kS, fS, -, hS, dS, nS⟩ := Cond.arrayOver_spec aS
  refine ⟨((fun k => match k with | 0 => c0 | 1 => c1 | 2 => c2 | 3 => c3 | 4 => c4 | 5 => c5 | 6 => c6 | 7 => c7 | _ => c8, fun k => match k with | 0 => i0 | 1 => i1 | 2 => i2 | 3 => i3 | 4 => i4 | 5 => i5 | 6 => i6 | 7 => i7 | _ => i8), s.heap.size, cI, cB, cL, cS), rfl, ⟨⟨fun k q hq => ?_, fun k q hq => ?_⟩, ?_, ?_⟩, ⟨?_, ?_, ?_, ?_⟩, ?_, ?_⟩
  · match k, hq with
    | 0, hq => cases hq; exact k0
    | 1, hq => cases hq; exact k1
    | 2, hq => cases hq; exact k2
    | 3, hq => cases hq; exact k3
    | 4, hq => cases hq; exact k4
    | 5, hq => cases hq; exact k5
    | 6, hq => cases hq; exact k6
    | 7, hq => cases hq; exact k7
    | 8, hq => cases hq; exact k8
    | k + 9, hq => simp [vwCl] at hq
  · match k, hq with
    | 0, hq => cases hq; exact ⟨fun n z => ⟨fun k h => (by cases h), kI, hI, pI, dI⟩, nI⟩
    | 1, hq => cases hq; exact ⟨fun n z => ⟨fun k h => (by cases h), kB, hB, pB, dB⟩, nB⟩
    | 2, hq => cases hq; exact ⟨fun n z => ⟨fun k h => (by cases h), kL, hL, pL, dL⟩, kL, pL, hL, dL, fL, nL⟩
    | 3, hq => cases hq; exact ⟨fun n z => ⟨fun k h => (by cases h), kS, hS, pS, dS⟩, kS, pS, hS, dS, fS, nS⟩
    | k + 4, hq => simp at hq
  · exact va_Nw.of rfl (hts _ (List.mem_append_right _ w_n0))
  · exact va_Nw.of rfl (hts _ (List.mem_append_right _ w_n1))
  · exact va_Nw.of rfl (hts _ (List.mem_append_right _ w_n2))
  · exact va_Nw.of rfl (hts _ (List.mem_append_right _ w_n3))
  · exact va_Nw.of rfl (hts _ (List.mem_append_right _ w_n4))
  · exact va_Nw.of rfl (hts _ (List.mem_append_right _ w_n5))
  · exact va_AO.of aL
  · exact va_AO.of aS
