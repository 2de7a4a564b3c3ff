/-! ===== what the class's small methods do, over its own memory ===== -/
def cVal (j : Nat) : Nat := 8 + 8 * j + 4
def isRC (f : Int → Int) (v : Int) : Bool := decide (v = 0) || !(anyB (fun h => decide (f (h : Int) = v)) 6)
def cMark (G : zM) (i : Nat) : zM := up (up G i 0 (-4)) i 1 (-4)
def cEnter (G : zM) (j : Nat) (r : Int) : zM := up (up (up (up (up G (8 + 8 * j) 3 r) (8 + 8 * j) 4 0) (8 + 8 * j) 6 0) (8 + 8 * j) 7 0) (8 + 8 * j) 8 0
def cClrH (G : zM) (j : Nat) : zM := cEnter (fillM (cMark (cMark (up G (8 + 8 * j) 5 0) (8 + 8 * j + 1)) (8 + 8 * j + 2)) (8 + 8 * j + 7) 0 3 (-1)) j 0
def cChClr (G : zM) (j : Nat) : zM := fillM (fillM G (8 + 8 * j + 4) 0 6 (-4)) (8 + 8 * j + 5) 0 6 (-4)
def cClr (G : zM) (j : Nat) : zM := cClrH (cChClr (fillM (up (up (up G (8 + 8 * j) 1 0) (8 + 8 * j) 2 0) (8 + 8 * j) 9 0) (8 + 8 * j + 6) 0 100 0) j) j
def cAdd (G : zM) (j : Nat) (h v r : Int) : zM := up (up G (8 + 8 * j + 4) h v) (8 + 8 * j + 5) h r
def cDec (G : zM) (j : Nat) (v r : Int) : zM := cClrH (up (cAdd G j (G (8 + 8 * j) 2) v r) (8 + 8 * j) 2 (G (8 + 8 * j) 2 + 1)) j
def cLeastP (G : zM) (j : Nat) (v : Nat) : Bool := decide (G (8 + 8 * j + 6) (v : Int) ≠ 0) && isRC (G (8 + 8 * j + 4)) v
def oN (o : Option Nat) : Int := match o with
  | some v => v
  | none => 0
def cLeast (G : zM) (j : Nat) : Int := oN (fstB (cLeastP G j) 99 1)
def cMom (G : zM) (j : Nat) : Int := G (8 + 8 * j) 2 * 10 + G (8 + 8 * j) 3
def cUns (G : zM) (j : Nat) (k : Int) : zM := if G (8 + 8 * j + 7) k = -1 then G else up G (8 + 8 * j + 7) k (-1)
def cTake (G : zM) (j : Nat) (v : Int) : zM := if G (8 + 8 * j + 6) v ≠ 0 then G else up (up G (8 + 8 * j + 6) v 1) (8 + 8 * j) 9 (G (8 + 8 * j) 9 + 1)
def cLink (G : zM) (j : Nat) (h : Int) : Int := if G (8 + 8 * j + 4) h = -4 then -4 else lnkI (fun k => G (8 + 8 * j + 4) (k : Int)) (h.toNat + 1)
def tmP (G : zM) (j : Nat) (t : Nat) : Bool := decide (G (8 + 8 * j + 7) (t : Int) ≠ -1)
theorem tb_N : ∀ b0 b1 b2 : Bool, ∀ i : Fin 3, fB b0 b1 b2 b0 b0 b0 b0 i = true → orS (msk (fB b0 b1 b2 b0 b0 b0 b0) i) ((i : Nat) : Int) = msk (fB b0 b1 b2 b0 b0 b0 b0) (i + 1) := by decide +kernel
theorem tb_t (P : Nat → Bool) {i : Nat} (h : i < 3) (hp : P i = true) : orS (msk P i) (i : Int) = msk P (i + 1) := by
  have e : ∀ q, q < 3 → P q = fB (P 0) (P 1) (P 2) (P 0) (P 0) (P 0) (P 0) q := by
    intro q hq
    rcases (show q = 0 ∨ q = 1 ∨ q = 2 by omega) with rfl | rfl | rfl <;> rfl
  have a := tb_N (P 0) (P 1) (P 2) ⟨i, h⟩ (by rw [← e i h]; exact hp)
  rw [msk_congr (P := P) (n := i) (fun q hq => e q (by omega)), msk_congr (P := P) (n := i + 1) (fun q hq => e q (by omega))]
  exact a
theorem tb_f (P : Nat → Bool) {i : Nat} (hp : ¬ P i = true) : msk P i = msk P (i + 1) := by
  rw [msk, if_neg hp, Int.add_zero]
theorem mk3_N : ∀ b0 b1 b2 : Bool, 0 ≤ msk (fB b0 b1 b2 b0 b0 b0 b0) 3 ∧ msk (fB b0 b1 b2 b0 b0 b0 b0) 3 ≤ 7 := by decide +kernel
