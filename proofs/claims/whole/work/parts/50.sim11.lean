/-! ===== LockedChain itself: which seat, which letter ===== -/
def stV (X : zM) (v : Int) : Int := if 0 ≤ v ∧ v < X 64 0 then 8 + 8 * v else -1
def hoV (X : zM) (v : Int) : Int := if (0 ≤ v ∧ v < X 64 0) ∧ X 65 v = 0 then 8 + 8 * v else -1
def atV (X : zM) (v : Int) : Int := if 0 ≤ v ∧ v < X 64 7 then 71 + v else -1
theorem stV_pos {X : zM} {v : Int} (hn : 4 ≤ X 64 0 ∧ X 64 0 ≤ 7) (h : 0 ≤ stV X v) : ∃ j : Nat, v = (j : Int) ∧ (j : Int) < X 64 0 ∧ j < 7 ∧ stV X v = ((8 + 8 * j : Nat) : Int) := by
  by_cases c : 0 ≤ v ∧ v < X 64 0
  · refine ⟨v.toNat, by omega, by omega, by omega, ?_⟩
    rw [stV, if_pos c]
    omega
  · rw [stV, if_neg c] at h
    omega
theorem stV_neg {X : zM} {v : Int} (h : stV X v < 0) : ¬ (0 ≤ v ∧ v < X 64 0) := by
  intro c
  rw [stV, if_pos c] at h
  omega
theorem hoV_pos {X : zM} {i : Nat} (hn : 4 ≤ X 64 0 ∧ X 64 0 ≤ 7) (h : 0 ≤ hoV X (i : Int)) : i < 7 ∧ (i : Int) < X 64 0 ∧ X 65 (i : Int) = 0 ∧ hoV X (i : Int) = ((8 + 8 * i : Nat) : Int) := by
  by_cases c : (0 ≤ (i : Int) ∧ (i : Int) < X 64 0) ∧ X 65 (i : Int) = 0
  · refine ⟨by omega, c.1.2, c.2, ?_⟩
    rw [hoV, if_pos c]
    omega
  · rw [hoV, if_neg c] at h
    omega
theorem hoV_neg {X : zM} {i : Nat} (hi : (i : Int) < X 64 0) (h : hoV X (i : Int) < 0) : X 65 (i : Int) ≠ 0 := by
  intro c
  rw [hoV, if_pos ⟨⟨by omega, hi⟩, c⟩] at h
  omega
theorem atV_pos {X : zM} {v : Int} (h : 0 ≤ atV X v) : ∃ y : Nat, v = (y : Int) ∧ (y : Int) < X 64 7 ∧ atV X v = ((71 + y : Nat) : Int) := by
  by_cases c : 0 ≤ v ∧ v < X 64 7
  · refine ⟨v.toNat, by omega, by omega, ?_⟩
    rw [atV, if_pos c]
    omega
  · rw [atV, if_neg c] at h
    omega
theorem atV_neg {X : zM} {v : Int} (h : atV X v < 0) : ¬ (0 ≤ v ∧ v < X 64 7) := by
  intro c
  rw [atV, if_pos c] at h
  omega
theorem atV_in {X : zM} {i : Nat} (h : (i : Int) < X 64 7) : atV X (i : Int) = ((71 + i : Nat) : Int) := by
  rw [atV, if_pos ⟨by omega, h⟩]
  omega
theorem at_eq {C X : zM} {u : Nat} (hS : PostS C X u) (v : Int) : (if 0 ≤ v ∧ v < C 2 3 ∧ v < 400 then C 3 v else -1) = atV X v := by
  obtain ⟨s1, s2, s3, -, -⟩ := hS
  unfold atV
  by_cases c : 0 ≤ v ∧ v < X 64 7
  · have q := s3 v.toNat (by omega)
    rw [show ((v.toNat : Nat) : Int) = v by omega, if_pos (by omega)] at q
    rw [if_pos (by omega), if_pos c, q]
  · rw [if_neg (by omega), if_neg c]
theorem st_eq {C X : zM} {u : Nat} (hM : Sim C X u) (hn : X 64 0 ≤ 7) {v : Int} (h : 0 ≤ v ∧ v < X 64 0) : C 7 v = stV X v := by
  have q := hM.2.2.1 v.toNat (by omega)
  rw [show ((v.toNat : Nat) : Int) = v by omega] at q
  rw [stV, if_pos h, q]
  omega
theorem st_no {X : zM} {v : Int} (h : ¬ (0 ≤ v ∧ v < X 64 0)) : -1 = stV X v := by rw [stV, if_neg h]
/-- the numbers of letters, heights, splits -/
theorem gH_S {X : zM} {i : Nat} (h : X 65 (i : Int) = 0) (h6 : 0 ≤ X 67 (20 * (i : Int) + 0)) : (if hgF X 0 (i + 1) < 0 then 0 else hgF X 0 (i + 1)) = max (if hgF X 0 i < 0 then 0 else hgF X 0 i) (X 67 (20 * (i : Int) + 0)) := by
  rw [hgF]
  generalize hgF X 0 i = z
  generalize X 67 (20 * (i : Int) + 0) = y at h6 ⊢
  have : ¬ X 65 (i : Int) ≠ 0 := fun q => q h
  by_cases c : X 65 (i : Int) ≠ 0 ∨ (0 ≤ z ∧ (((0 : Int) ≠ 0 ∧ z ≤ y) ∨ ((0 : Int) = 0 ∧ y ≤ z)))
  · rw [if_pos c]
    have : 0 ≤ z ∧ y ≤ z := by omega
    rw [if_neg (by omega)]
    omega
  · rw [if_neg c, if_neg (by omega)]
    have : z < 0 ∨ z < y := by omega
    split <;> omega
theorem hg_no {X : zM} {b : Int} {i : Nat} (h : X 65 (i : Int) ≠ 0) : hgF X b (i + 1) = hgF X b i := by
  rw [hgF, if_pos (Or.inl h)]
theorem hg_le {X : zM} {n i : Nat} (hi : i < n) (h : X 65 (i : Int) = 0) (h6 : ∀ t : Nat, t < n → 0 ≤ X 67 (20 * (t : Int) + 0)) : X 67 (20 * (i : Int) + 0) ≤ hgF X 0 n := by
  induction n with
  | zero => omega
  | succ n ih =>
    have h6n := h6 n (by omega)
    by_cases c : X 65 (n : Int) = 0
    · rw [hgF]
      by_cases y : X 65 (n : Int) ≠ 0 ∨ (0 ≤ hgF X 0 n ∧ (((0 : Int) ≠ 0 ∧ hgF X 0 n ≤ X 67 (20 * (n : Int) + 0)) ∨ ((0 : Int) = 0 ∧ X 67 (20 * (n : Int) + 0) ≤ hgF X 0 n)))
      · rw [if_pos y]
        by_cases e : i = n
        · rw [e]; omega
        · exact ih (by omega) (fun t ht => h6 t (by omega))
      · rw [if_neg y]
        by_cases e : i = n
        · rw [e]; exact Int.le_refl _
        · have := ih (by omega) (fun t ht => h6 t (by omega))
          omega
    · rw [hg_no c]
      exact ih (by by_cases e : i = n; · exact absurd (e ▸ h) c
                   · omega) (fun t ht => h6 t (by omega))
theorem hg_sgn {X : zM} (h6 : ∀ t : Nat, t < 7 → 0 ≤ X 67 (20 * (t : Int) + 0)) (a b : Int) : ∀ n : Nat, n ≤ 7 → (hgF X a n < 0 ↔ hgF X b n < 0)
  | 0, _ => Iff.rfl
  | n + 1, hn => by
    have ih := hg_sgn h6 a b n (by omega)
    have h6n := h6 n (by omega)
    rw [hgF, hgF]
    generalize hgF X a n = z at ih ⊢
    generalize hgF X b n = y at ih ⊢
    generalize X 67 (20 * (n : Int) + 0) = x at h6n ⊢
    split <;> split <;> omega
theorem lH_S {X : zM} {g : Int} {i : Nat} (h : X 65 (i : Int) = 0) (h6 : 0 ≤ X 67 (20 * (i : Int) + 0)) (hg : X 67 (20 * (i : Int) + 0) ≤ g) : (if hgF X 1 (i + 1) < 0 then g else hgF X 1 (i + 1)) = min (if hgF X 1 i < 0 then g else hgF X 1 i) (X 67 (20 * (i : Int) + 0)) := by
  rw [hgF]
  generalize hgF X 1 i = z
  generalize X 67 (20 * (i : Int) + 0) = y at h6 hg ⊢
  by_cases c : X 65 (i : Int) ≠ 0 ∨ (0 ≤ z ∧ (((1 : Int) ≠ 0 ∧ z ≤ y) ∨ ((1 : Int) = 0 ∧ y ≤ z)))
  · rw [if_pos c]
    have : 0 ≤ z ∧ z ≤ y := by omega
    rw [if_neg (by omega)]
    omega
  · rw [if_neg c, if_neg (by omega)]
    have : z < 0 ∨ y < z := by omega
    split <;> omega
theorem ul_S {X : zM} {h : Int} {i : Nat} (hb : ¬ ulB X h i = true) (hs : ¬ (0 ≤ ulV X h i ∧ 0 ≤ ulF X h i ∧ ulV X h i ≠ ulF X h i)) : ¬ ulB X h (i + 1) = true := by
  rw [ulB_S]
  exact fun q => q.elim hb hs
theorem ul_more {X : zM} {h : Int} {i : Nat} (hb : ulB X h i = true) : ∀ {n : Nat}, i ≤ n → ulB X h n = true := by
  intro n hn
  induction n with
  | zero => rw [show (0 : Nat) = i by omega]; exact hb
  | succ n ih =>
    by_cases e : i = n + 1
    · rw [← e]; exact hb
    · rw [ulB_S]; exact Or.inl (ih (by omega))
theorem msk3 (b0 b1 b2 : Bool) (P : Nat → Bool) (h0 : P 0 = b0) (h1 : P 1 = b1) (h2 : P 2 = b2) : msk P 3 = (if b0 then 1 else 0) + 2 * (if b1 then 1 else 0) + 4 * (if b2 then 1 else 0) := by
  rw [msk_congr (Q := fB b0 b1 b2 b0 b0 b0 b0) (fun i hi => by
    rcases (show i = 0 ∨ i = 1 ∨ i = 2 by omega) with rfl | rfl | rfl
    · exact h0
    · exact h1
    · exact h2)]
  clear h0 h1 h2
  revert b0 b1 b2
  decide +kernel
theorem seats6 {X : zM} (hI : Inv X) : ∀ t : Nat, t < 7 → 0 ≤ X 67 (20 * (t : Int) + 0) ∧ X 67 (20 * (t : Int) + 0) ≤ 6 := fun t ht => (hI.2.2.2.2.1 (t : Int) (by omega) (by omega)).1.2.1
theorem hgF_rng {X : zM} (hI : Inv X) (b : Int) : ∀ n : Nat, n ≤ 7 → -1 ≤ hgF X b n ∧ hgF X b n ≤ 6
  | 0, _ => by show -1 ≤ (-1 : Int) ∧ (-1 : Int) ≤ 6; decide
  | n + 1, hn => by
    have ih := hgF_rng hI b n (by omega)
    have h6 := seats6 hI n (by omega)
    rw [hgF]
    split <;> omega
theorem hgN_rng {X : zM} (hI : Inv X) : 0 ≤ hgN X 0 ∧ hgN X 0 ≤ 6 := by
  have q := hgF_rng hI 0 (X 64 0).toNat (by have := hI.1; omega)
  unfold hgN
  split <;> omega
theorem hg_top {X : zM} (hI : Inv X) {i : Nat} (hi : (i : Int) < X 64 0) (h : X 65 (i : Int) = 0) : X 67 (20 * (i : Int) + 0) ≤ hgN X 0 := by
  have hn := hI.1
  have q := hg_le (n := (X 64 0).toNat) (i := i) (by omega) h (fun t ht => (seats6 hI t (by omega)).1)
  unfold hgN
  split <;> omega
theorem lH_end {X : zM} (hI : Inv X) : (if hgF X 1 (X 64 0).toNat < 0 then hgN X 0 else hgF X 1 (X 64 0).toNat) = hgN X 1 := by
  have hn := hI.1
  have q := hg_sgn (fun t ht => (seats6 hI t ht).1) 1 0 (X 64 0).toNat (by omega)
  unfold hgN
  by_cases c : hgF X 1 (X 64 0).toNat < 0
  · rw [if_pos c, if_pos c, if_pos (q.mp c)]
  · rw [if_neg c, if_neg c]
theorem nn_neg {z : Int} (h : z < 0) : nn z = -4 := if_pos h
theorem nn_pos {z : Int} (h : 0 ≤ z) : nn z = z := if_neg (by omega)
theorem nn_4 {z : Int} : nn z = -4 ↔ z < 0 := by
  unfold nn
  split <;> omega
theorem ulV_no {X : zM} {h : Int} {i : Nat} (hf : X 65 (i : Int) ≠ 0) : -4 = nn (ulV X h i) := by
  rw [ulV, if_pos hf]
  rfl
theorem ulV_ho {C X : zM} {u : Nat} {h : Int} {i : Nat} (hM : Sim C X u) (hi : i < 7) (hf : X 65 (i : Int) = 0) (h0 : 0 ≤ h ∧ h < 6) : C (8 + 8 * i + 4) h = nn (ulV X h i) := by
  rw [ulV, if_neg (fun q => q hf)]
  exact ((hM.2.2.2 i hi).2.2.2.2.2.1 h h0.1 h0.2).1
theorem ulV_rng {X : zM} (hI : Inv X) {h : Int} (h0 : 0 ≤ h ∧ h < 6) {i : Nat} (hi : i < 7) : -1 ≤ ulV X h i ∧ ulV X h i ≤ 99 ∧ -4 ≤ nn (ulV X h i) ∧ nn (ulV X h i) ≤ 99 := by
  have q := ((hI.2.2.2.2.1 (i : Int) (by omega) (by omega)).2 h h0.1 h0.2).1
  have : -1 ≤ ulV X h i ∧ ulV X h i ≤ 99 := by
    unfold ulV
    split <;> omega
  unfold nn
  split <;> omega
/-- one more seat of a height: b what was agreed, v this one's value -/
theorem ul_one {X : zM} {h b v : Int} {i : Nat} (hb : b = nn (ulF X h i)) (hv : v = nn (ulV X h i)) (hs : v = -4 ∨ b = -4 ∨ v = b) : (if v = -4 then b else v) = nn (ulF X h (i + 1)) ∧ ¬ (0 ≤ ulV X h i ∧ 0 ≤ ulF X h i ∧ ulV X h i ≠ ulF X h i) := by
  rw [ulF]
  generalize ulF X h i = f at hb ⊢
  generalize ulV X h i = g at hv ⊢
  unfold nn at hb hv ⊢
  subst hb hv
  refine ⟨?_, ?_⟩
  · repeat' split
    all_goals first | rfl | omega
  · intro q
    rw [if_neg (by omega), if_neg (by omega)] at hs
    omega
theorem ul_two {X : zM} {h b v : Int} {i : Nat} (hb : b = nn (ulF X h i)) (hv : v = nn (ulV X h i)) (h1 : v ≠ -4) (h2 : b ≠ -4) (h3 : v ≠ b) : 0 ≤ ulV X h i ∧ 0 ≤ ulF X h i ∧ ulV X h i ≠ ulF X h i := by
  have a := fun q : ulV X h i < 0 => h1 (hv.trans (nn_neg q))
  have c := fun q : ulF X h i < 0 => h2 (hb.trans (nn_neg q))
  have a0 : 0 ≤ ulV X h i := Int.not_lt.mp a
  have c0 : 0 ≤ ulF X h i := Int.not_lt.mp c
  rw [nn_pos a0] at hv
  rw [nn_pos c0] at hb
  exact ⟨a0, c0, by rw [← hv, ← hb]; exact h3⟩
section ZM
variable {p : Program} {l : Launch} {e : Env} {R : Room} {s : State} {m : MethodId} {args : Array Value} {below : List Frame} {meth : Method} {c : Code} {H : Heap} {locs : List Loc} {cells slots : Nat} {Q : State → Prop}
variable {cc : ByteArray} {nL : Nat} {Ts : List Cond} {own : String} {pc : Nat} {ls : Array Slot} {rest : List Value}
theorem z_mmax (F : CallFix p m c cc nL s args Ts own) {index : Nat} {x y : Int} {lv : List (Nat × Value)} (hl : lv_has ls nL lv) (hx : -2147483648 ≤ x ∧ x < 2147483648) (hy : -2147483648 ≤ y ∧ y < 2147483648) (h1 : Cond.methodLink own index Lib.Math.max.name ∈ Ts) (h2 : Cond.static Lib.Math.max.name ∈ Ts) (h3 : Cond.initialized "java/lang/Math" ∈ Ts) (h4 : Cond.code Lib.Math.max.name Lib.Math.max.code 2 (some .int) ∈ Ts)
    (hframes : 1 ≤ R.frames) (hlocals : (rest.map fun v => v.category).sum + 13 ≤ R.locals) (hc : cells ≤ R.cells) (hs : slots ≤ R.slots) (hdg : decode cc pc = .ok (.invokestatic index, 3)) (k : W p l e R s m args below meth c H locs cells slots Q (F0 m (pc + 3) ls (.int (zI (max x y)) :: rest))) : W p l e R s m args below meth c H locs cells slots Q (F0 m pc ls (.int (zI y) :: .int (zI x) :: rest)) := by
  refine va_mmax F.1 F.2.1 (by rw [F.2.2.1]; exact hl.1.symm) F.2.2.2.1 (F.2.2.2.2 _ h1) (F.2.2.2.2 _ h2) (F.2.2.2.2 _ h3) (F.2.2.2.2 _ h4) hframes hlocals hc hs hdg ?_
  have e : (if zI x < zI y then zI y else zI x) = zI (max x y) := by
    by_cases q : x < y
    · rw [if_pos ((zI_lt hx hy).mpr q), show max x y = y by omega]
    · rw [if_neg (fun z => q ((zI_lt hx hy).mp z)), show max x y = x by omega]
  rw [e]
  exact k
theorem z_mmin (F : CallFix p m c cc nL s args Ts own) {index : Nat} {x y : Int} {lv : List (Nat × Value)} (hl : lv_has ls nL lv) (hx : -2147483648 ≤ x ∧ x < 2147483648) (hy : -2147483648 ≤ y ∧ y < 2147483648) (h1 : Cond.methodLink own index Lib.Math.min.name ∈ Ts) (h2 : Cond.static Lib.Math.min.name ∈ Ts) (h3 : Cond.initialized "java/lang/Math" ∈ Ts) (h4 : Cond.code Lib.Math.min.name Lib.Math.min.code 2 (some .int) ∈ Ts)
    (hframes : 1 ≤ R.frames) (hlocals : (rest.map fun v => v.category).sum + 13 ≤ R.locals) (hc : cells ≤ R.cells) (hs : slots ≤ R.slots) (hdg : decode cc pc = .ok (.invokestatic index, 3)) (k : W p l e R s m args below meth c H locs cells slots Q (F0 m (pc + 3) ls (.int (zI (min x y)) :: rest))) : W p l e R s m args below meth c H locs cells slots Q (F0 m pc ls (.int (zI y) :: .int (zI x) :: rest)) := by
  refine va_mmin F.1 F.2.1 (by rw [F.2.2.1]; exact hl.1.symm) F.2.2.2.1 (F.2.2.2.2 _ h1) (F.2.2.2.2 _ h2) (F.2.2.2.2 _ h3) (F.2.2.2.2 _ h4) hframes hlocals hc hs hdg ?_
  have e : (if zI y < zI x then zI y else zI x) = zI (min x y) := by
    by_cases q : y < x
    · rw [if_pos ((zI_lt hy hx).mpr q), show min x y = y by omega]
    · rw [if_neg (fun z => q ((zI_lt hy hx).mp z)), show min x y = x by omega]
  rw [e]
  exact k
end ZM
