theorem newP_slot {X : zM} {s : Int} {l : Nat} (h : newP X s l = true) : slotL X l = (0 * 6 + X 67 (20 * s + 0)) * 10 + X 67 (20 * s + 1) := by
  unfold newP propo at h
  simp only [Bool.and_eq_true, decide_eq_true_eq] at h
  obtain ⟨⟨-, h1, h2, -⟩, h3, -⟩ := h
  unfold slotL
  omega
theorem oldP_slot {X : zM} {s : Int} {l : Nat} (h : oldP X s l = true) : slotL X l = (0 * 6 + X 67 (20 * s + 0)) * 10 + X 67 (20 * s + 1) := by
  unfold oldP propo at h
  simp only [Bool.and_eq_true, decide_eq_true_eq] at h
  obtain ⟨⟨⟨⟨-, h1, h2, -⟩, h3⟩, -⟩, -⟩ := h
  unfold slotL
  omega
theorem newP_iff {X : zM} {s : Int} {l : Nat} (hI : Inv X) (hl : (l : Int) < X 64 7) (hh : 0 ≤ X 67 (20 * s + 0) ∧ X 67 (20 * s + 0) ≤ 5) (hr : 0 ≤ X 67 (20 * s + 1) ∧ X 67 (20 * s + 1) ≤ 9) (hs : slotL X l = (0 * 6 + X 67 (20 * s + 0)) * 10 + X 67 (20 * s + 1)) : newP X s l = true ↔ prC X s l ∧ X 69 (6 * (l : Int) + 5) < 0 := by
  have e := (slotL_eq hI hl (kd := 0) (h' := X 67 (20 * s + 0)) (r := X 67 (20 * s + 1)) (by omega) hh hr).mp hs
  unfold newP propo
  simp only [Bool.and_eq_true, decide_eq_true_eq]
  constructor
  · rintro ⟨⟨a, -, -, b⟩, -, d⟩; exact ⟨⟨a, b⟩, d⟩
  · rintro ⟨⟨a, b⟩, d⟩; exact ⟨⟨a, e.1, e.2.1, b⟩, e.2.2, d⟩
theorem oldP_iff {X : zM} {s : Int} {l : Nat} (hI : Inv X) (hl : (l : Int) < X 64 7) (hh : 0 ≤ X 67 (20 * s + 0) ∧ X 67 (20 * s + 0) ≤ 5) (hr : 0 ≤ X 67 (20 * s + 1) ∧ X 67 (20 * s + 1) ≤ 9) (hs : slotL X l = (0 * 6 + X 67 (20 * s + 0)) * 10 + X 67 (20 * s + 1)) : oldP X s l = true ↔ (0 ≤ X 69 (6 * (l : Int) + 5) ∧ X 69 (6 * (l : Int) + 5) ≤ X 67 (20 * s + 1) - 1) ∧ prC X s l ∧ manyN X ≤ voteN X s 1 (X 67 (20 * s + 0)) (X 69 (6 * (l : Int) + 5)) (X 69 (6 * (l : Int) + 4)) := by
  have e := (slotL_eq hI hl (kd := 0) (h' := X 67 (20 * s + 0)) (r := X 67 (20 * s + 1)) (by omega) hh hr).mp hs
  unfold oldP propo
  simp only [Bool.and_eq_true, decide_eq_true_eq]
  constructor
  · rintro ⟨⟨⟨⟨a, -, -, b⟩, -⟩, c⟩, d⟩; exact ⟨c, ⟨a, b⟩, d⟩
  · rintro ⟨c, ⟨a, b⟩, d⟩; exact ⟨⟨⟨⟨a, e.1, e.2.1, b⟩, e.2.2⟩, c⟩, d⟩
theorem prevN_s {X : zM} {s : Int} (h : X 67 (20 * s + 2) ≠ 0) : prevN X s = none := if_pos h
theorem prevN_n {X : zM} {s : Int} (h : X 67 (20 * s + 2) = 0) (hf : fstB (newP X s) (X 64 7).toNat 0 = none) : prevN X s = none := by
  unfold prevN
  rw [if_neg (fun z => z h), hf]
theorem prevN_t {X : zM} {s v : Int} {l : Nat} (h : X 67 (20 * s + 2) = 0) (hf : fstB (newP X s) (X 64 7).toNat 0 = some l) (hv : newV X s l = v) : prevN X s = some (castsM X s 1 v) := by
  unfold prevN
  rw [if_neg (fun z => z h), hf, ← hv]
theorem prevO_s {X : zM} {s : Int} (h : X 67 (20 * s + 2) ≠ 0) : prevO X s = none := if_pos h
theorem prevO_n {X : zM} {s : Int} (h : X 67 (20 * s + 2) = 0) (hf : fstB (oldP X s) (X 64 7).toNat 0 = none) : prevO X s = none := by
  unfold prevO prevOldM
  rw [if_neg (fun z => z h), hf]
theorem prevO_t {X : zM} {s v : Int} {l : Nat} (h : X 67 (20 * s + 2) = 0) (hf : fstB (oldP X s) (X 64 7).toNat 0 = some l) (hv : oldV X s l = v) : prevO X s = some (castsM X s 1 v) := by
  unfold prevO prevOldM
  rw [if_neg (fun z => z h), hf, ← hv]
