/-! ===== what a seat reads ===== -/
theorem Sim_f {C X : zM} {u j : Nat} (hM : Sim C X u) (hj : j < 7) : C (8 + 8 * j) 0 = (j : Int) ∧ C (8 + 8 * j) 1 = X 65 (j : Int) ∧ C (8 + 8 * j) 2 = X 67 (20 * (j : Int) + 0) ∧ C (8 + 8 * j) 3 = X 67 (20 * (j : Int) + 1) ∧ C (8 + 8 * j) 4 = X 67 (20 * (j : Int) + 2) ∧ C (8 + 8 * j) 5 = X 67 (20 * (j : Int) + 7) := (hM.2.2.2 j hj).1
theorem Sim_fl {C X : zM} {u j : Nat} (hM : Sim C X u) (hj : j < 7) (h : X 67 (20 * (j : Int) + 0) ≤ 5) : C (8 + 8 * j) 6 = X 67 (20 * (j : Int) + 8) ∧ C (8 + 8 * j) 7 = X 67 (20 * (j : Int) + 9) ∧ C (8 + 8 * j) 8 = X 67 (20 * (j : Int) + 10) := (hM.2.2.2 j hj).2.1 h
theorem Sim_lk {C X : zM} {u j : Nat} (hM : Sim C X u) (hj : j < 7) : (X 67 (20 * (j : Int) + 3) < 0 ∧ C (8 + 8 * j + 1) 0 = -4 ∧ C (8 + 8 * j + 1) 1 = -4) ∨ (0 ≤ X 67 (20 * (j : Int) + 3) ∧ C (8 + 8 * j + 1) 0 = X 67 (20 * (j : Int) + 3) ∧ C (8 + 8 * j + 1) 1 = X 67 (20 * (j : Int) + 4)) := by
  have q := (hM.2.2.2 j hj).2.2.2.1
  have q0 : C (8 + 8 * j + 1) 0 = nn (X 67 (20 * (j : Int) + 3)) := q.1
  unfold nn at q0
  by_cases h : X 67 (20 * (j : Int) + 3) < 0
  · rw [if_pos h] at q0; exact Or.inl ⟨h, q0, q.2.2 h⟩
  · rw [if_neg h] at q0; exact Or.inr ⟨by omega, q0, q.2.1 (by show 0 ≤ X 67 (20 * (j : Int) + 3); omega)⟩
theorem Sim_vl {C X : zM} {u j : Nat} (hM : Sim C X u) (hj : j < 7) : (X 67 (20 * (j : Int) + 5) < 0 ∧ C (8 + 8 * j + 2) 0 = -4 ∧ C (8 + 8 * j + 2) 1 = -4) ∨ (0 ≤ X 67 (20 * (j : Int) + 5) ∧ C (8 + 8 * j + 2) 0 = X 67 (20 * (j : Int) + 5) ∧ C (8 + 8 * j + 2) 1 = X 67 (20 * (j : Int) + 6)) := by
  have q := (hM.2.2.2 j hj).2.2.2.2.1
  have q0 : C (8 + 8 * j + 2) 0 = nn (X 67 (20 * (j : Int) + 5)) := q.1
  unfold nn at q0
  by_cases h : X 67 (20 * (j : Int) + 5) < 0
  · rw [if_pos h] at q0; exact Or.inl ⟨h, q0, q.2.2 h⟩
  · rw [if_neg h] at q0; exact Or.inr ⟨by omega, q0, q.2.1 (by show 0 ≤ X 67 (20 * (j : Int) + 5); omega)⟩
theorem isR_eq {C X : zM} {u j : Nat} (hM : Sim C X u) (hj : j < 7) {v : Int} (hv : 0 ≤ v) : isRC (C (8 + 8 * j + 4)) v = isR X j v := by
  unfold isRC isR
  congr 1
  congr 1
  refine anyB_congr fun h hh => ?_
  have q := ((hM.2.2.2 j hj).2.2.2.2.2.1 h (by omega) (by omega)).1
  have q0 : C (8 + 8 * j + 4) (h : Int) = nn (X 68 (12 * (j : Int) + 2 * (h : Int))) := q
  rw [q0, decide_eq_decide]
  unfold nn
  split <;> omega
theorem least_eq {C X : zM} {u j : Nat} (hM : Sim C X u) (hj : j < 7) : cLeast C j = leastV X j := by
  unfold cLeast leastV
  have e : ∀ k i : Nat, 1 ≤ i → i + k ≤ 100 → fstB (cLeastP C j) k i = fstB (leastP X j) k i := by
    intro k
    induction k with
    | zero => intro i _ _; rfl
    | succ k ih =>
      intro i h1 h2
      have a : cLeastP C j i = leastP X j i := by
        unfold cLeastP leastP
        rw [isR_eq hM hj (by omega)]
        have q : C (8 + 8 * j + 6) (i : Int) = X 66 (100 * (j : Int) + (i : Int)) := (hM.2.2.2 j hj).2.2.2.2.2.2.1 i (by omega) (by omega)
        rw [q]
      rw [fstB, fstB, a, ih (i + 1) (by omega) (by omega)]
  rw [e 99 1 (by omega) (by omega)]
  unfold oN
  cases fstB (leastP X j) 99 1 <;> rfl
def oL (o : Option Nat) : Int := match o with
  | some l => ((71 + l : Nat) : Int)
  | none => -1
theorem fstB_skip {P : Nat → Bool} {L i : Nat} : ∀ {q : Nat}, i ≤ q → q ≤ L → (∀ l, i ≤ l → l < q → ¬ P l = true) → fstB P (L - i) i = fstB P (L - q) q
  | 0, h, _, _ => by rw [show i = 0 by omega]
  | q + 1, h, hL, hn => by
    by_cases e : i = q + 1
    · rw [e]
    · rw [fstB_skip (q := q) (by omega) (by omega) (fun l a b => hn l a (by omega)), fstB_f (k := L - q) (i := q) (by omega) (hn q (by omega) (by omega)), Nat.sub_sub]
abbrev prC (X : zM) (s : Int) (l : Nat) : Prop := X 70 (7 * (l : Int) + s) ≠ 0 ∧ X 69 (6 * (l : Int) + 0) = (X 69 (6 * (l : Int) + 2) + X 69 (6 * (l : Int) + 3)) % X 64 0
theorem supP_slot {X : zM} {s r kd : Int} {l : Nat} (h : supP X s r kd l = true) : slotL X l = (0 * 6 + X 67 (20 * s + 0)) * 10 + r := by
  unfold supP at h
  simp only [Bool.and_eq_true, decide_eq_true_eq] at h
  obtain ⟨⟨⟨h1, h2⟩, -⟩, -⟩ := h
  unfold propo at h1
  rw [decide_eq_true_eq] at h1
  unfold slotL
  omega
theorem supP_iff {X : zM} {s r kd : Int} {l : Nat} (hI : Inv X) (hl : (l : Int) < X 64 7) (hh : 0 ≤ X 67 (20 * s + 0) ∧ X 67 (20 * s + 0) ≤ 5) (hr : 0 ≤ r ∧ r ≤ 9) (hs : slotL X l = (0 * 6 + X 67 (20 * s + 0)) * 10 + r) : supP X s r kd l = true ↔ prC X s l ∧ isR X s (X 69 (6 * (l : Int) + 4)) = true ∧ manyN X ≤ voteN X s kd (X 67 (20 * s + 0)) r (X 69 (6 * (l : Int) + 4)) := by
  have e := (slotL_eq hI hl (kd := 0) (h' := X 67 (20 * s + 0)) (r := r) (by omega) hh hr).mp hs
  unfold supP propo
  simp only [Bool.and_eq_true, decide_eq_true_eq]
  constructor
  · rintro ⟨⟨⟨⟨a, -, -, b⟩, c⟩, d⟩, f⟩; exact ⟨⟨a, b⟩, d, f⟩
  · rintro ⟨⟨a, b⟩, d, f⟩; exact ⟨⟨⟨⟨a, e.1, e.2.1, b⟩, e.2.2⟩, d⟩, f⟩
/-- who wrote at a round, over the kinds below k and the letters below i of kind k -/
def wK (X : zM) (s H r : Int) (k t l : Nat) : Bool := decide (slotL X l = ((k : Int) * 6 + H) * 10 + r ∧ X 70 (7 * (l : Int) + s) ≠ 0 ∧ X 69 (6 * (l : Int) + 0) = (t : Int))
def wA (X : zM) (s H r : Int) (L t : Nat) : Nat → Bool
  | 0 => false
  | k + 1 => wA X s H r L t k || anyB (wK X s H r k t) L
def wM (X : zM) (s H r : Int) (L k i : Nat) : Int := msk (fun t => wA X s H r L t k || anyB (wK X s H r k t) i) 7
theorem wM_next (X : zM) (s H r : Int) (L k : Nat) : wM X s H r L (k + 1) 0 = wM X s H r L k L := msk_congr fun t _ => by rw [wA, anyB, Bool.or_false]
theorem wM_skip {X : zM} {s H r : Int} {L k i q : Nat} (h : i ≤ q) (hn : ∀ l : Nat, i ≤ l → l < q → slotL X l ≠ ((k : Int) * 6 + H) * 10 + r) : wM X s H r L k q = wM X s H r L k i :=
  msk_congr fun t _ => by
    rw [anyB_skip h fun l a b c => ?_]
    unfold wK at c
    rw [decide_eq_true_eq] at c
    exact hn l a b c.1
theorem wM_no {X : zM} {s H r : Int} {L k q : Nat} (h : ¬ X 70 (7 * (q : Int) + s) ≠ 0) : wM X s H r L k (q + 1) = wM X s H r L k q :=
  msk_congr fun t _ => by
    rw [anyB]
    have : wK X s H r k t q = false := by
      unfold wK
      rw [decide_eq_false_iff_not]
      exact fun c => h c.2.1
    rw [this, Bool.or_false]
theorem wM_yes {X : zM} {s H r : Int} {L k q : Nat} (hk : slotL X q = ((k : Int) * 6 + H) * 10 + r) (hc : X 70 (7 * (q : Int) + s) ≠ 0) (hs : 0 ≤ X 69 (6 * (q : Int) + 0) ∧ X 69 (6 * (q : Int) + 0) < 7) : orS (wM X s H r L k q) (X 69 (6 * (q : Int) + 0)) = wM X s H r L k (q + 1) := by
  have a := msk_or (fun t => wA X s H r L t k || anyB (wK X s H r k t) q) (s := (X 69 (6 * (q : Int) + 0)).toNat) (by omega)
  rw [show (((X 69 (6 * (q : Int) + 0)).toNat : Nat) : Int) = X 69 (6 * (q : Int) + 0) by omega] at a
  refine a.trans (msk_congr fun t _ => ?_)
  rw [anyB, Bool.or_assoc]
  congr 2
  unfold wK
  rw [decide_eq_decide]
  constructor
  · intro z; exact ⟨hk, hc, by omega⟩
  · intro z; have := z.2.2; omega
