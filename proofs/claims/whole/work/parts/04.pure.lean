/-! ===== the game, as functions of the reference's memory (cells 64 to 70) ===== -/
def bI (p : Prop) [Decidable p] : Int := if p then 1 else 0
theorem bI_01 (p : Prop) [Decidable p] : bI p = 0 ∨ bI p = 1 := by
  unfold bI
  split <;> simp
theorem bI_t {p : Prop} [Decidable p] (h : p) : bI p = 1 := if_pos h
theorem bI_f {p : Prop} [Decidable p] (h : ¬ p) : bI p = 0 := if_neg h
def anyB (P : Nat → Bool) : Nat → Bool
  | 0 => false
  | n + 1 => anyB P n || P n
def cntB (P : Nat → Bool) : Nat → Int
  | 0 => 0
  | n + 1 => cntB P n + bI (P n = true)
def fstB (P : Nat → Bool) : Nat → Nat → Option Nat
  | 0, _ => none
  | k + 1, i => if P i = true then some i else fstB P k (i + 1)
theorem cntB_rng (P : Nat → Bool) (n : Nat) : 0 ≤ cntB P n ∧ cntB P n ≤ n := by
  induction n with
  | zero => simp [cntB]
  | succ n ih =>
    have h := bI_01 (P n = true)
    simp only [cntB]
    omega
theorem anyB_iff (P : Nat → Bool) (n : Nat) : anyB P n = true ↔ ∃ i, i < n ∧ P i = true := by
  induction n with
  | zero => simp [anyB]
  | succ n ih =>
    rw [anyB, Bool.or_eq_true, ih]
    constructor
    · rintro (⟨i, h1, h2⟩ | h)
      · exact ⟨i, by omega, h2⟩
      · exact ⟨n, by omega, h⟩
    · rintro ⟨i, h1, h2⟩
      by_cases e : i = n
      · exact Or.inr (e ▸ h2)
      · exact Or.inl ⟨i, by omega, h2⟩
theorem anyB_congr {P Q : Nat → Bool} {n : Nat} (h : ∀ i, i < n → P i = Q i) : anyB P n = anyB Q n := by
  induction n with
  | zero => rfl
  | succ n ih => rw [anyB, anyB, ih (fun i hi => h i (by omega)), h n (by omega)]
theorem cntB_congr {P Q : Nat → Bool} {n : Nat} (h : ∀ i, i < n → P i = Q i) : cntB P n = cntB Q n := by
  induction n with
  | zero => rfl
  | succ n ih => rw [cntB, cntB, ih (fun i hi => h i (by omega)), h n (by omega)]
theorem fstB_some {P : Nat → Bool} : ∀ {k i l : Nat}, fstB P k i = some l → i ≤ l ∧ l < i + k ∧ P l = true
  | 0, i, l, h => by simp [fstB] at h
  | k + 1, i, l, h => by
    unfold fstB at h
    by_cases e : P i = true
    · rw [if_pos e] at h
      cases h
      exact ⟨by omega, by omega, e⟩
    · rw [if_neg e] at h
      have := fstB_some h
      exact ⟨by omega, by omega, this.2.2⟩
/-- numbers of the game -/
def manyN (M : zM) : Int := 2 * M 64 0 / 3 + 1
def someN (M : zM) : Int := (M 64 0 - 1) / 3 + 1
def LN (M : zM) : Nat := (M 64 7).toNat
def isR (M : zM) (s v : Int) : Bool := decide (v = 0) || !(anyB (fun h => decide (M 68 (12 * s + 2 * (h : Int)) = v)) 6)
def vP (M : zM) (s kd h r v : Int) (t l : Nat) : Bool := decide (M 70 (7 * (l : Int) + s) ≠ 0 ∧ M 69 (6 * (l : Int) + 0) = (t : Int) ∧ M 69 (6 * (l : Int) + 1) = kd ∧ M 69 (6 * (l : Int) + 2) = h ∧ M 69 (6 * (l : Int) + 3) = r ∧ (v = -2 ∨ M 69 (6 * (l : Int) + 4) = v))
def voteN (M : zM) (s kd h r v : Int) : Int := cntB (fun t => anyB (vP M s kd h r v t) (LN M)) (M 64 0).toNat
def propo (M : zM) (s : Int) (l : Nat) : Bool := decide (M 70 (7 * (l : Int) + s) ≠ 0 ∧ M 69 (6 * (l : Int) + 1) = 0 ∧ M 69 (6 * (l : Int) + 2) = M 67 (20 * s + 0) ∧ M 69 (6 * (l : Int) + 0) = (M 69 (6 * (l : Int) + 2) + M 69 (6 * (l : Int) + 3)) % M 64 0)
def cameN (G : zM) (L s own : Int) : Nat → zM
  | 0 => G
  | k + 1 => up (cameN G L s own k) 70 (7 * L + (k : Int)) (bI (own ≠ 0 ∧ (k : Int) = s))
def sendsM (M : zM) (s kd h r v vr own : Int) : zM :=
  if M 64 7 = 400 then M else
    up (cameN (up (up (up (up (up (up M 69 (6 * M 64 7 + 0) s) 69 (6 * M 64 7 + 1) kd) 69 (6 * M 64 7 + 2) h) 69 (6 * M 64 7 + 3) r) 69 (6 * M 64 7 + 4) v) 69 (6 * M 64 7 + 5) vr) (M 64 7) s own 7) 64 7 (M 64 7 + 1)
def setM (M : zM) (s k v : Int) : zM := up M 67 (20 * s + k) v
def castsM (M : zM) (s kd v : Int) : zM := setM (sendsM M s kd (M 67 (20 * s + 0)) (M 67 (20 * s + 1)) v (-1) 1) s 2 kd
def setTimerM (M : zM) (s k : Int) : zM := setM (setM M s (11 + k) 1) s (14 + k) (10 * setM M s (11 + k) 1 67 (20 * s + 0) + setM M s (11 + k) 1 67 (20 * s + 1))
def leastP (M : zM) (s : Int) (v : Nat) : Bool := decide (M 66 (100 * s + (v : Int)) ≠ 0) && isR M s v
def leastV (M : zM) (s : Int) : Int := match fstB (leastP M s) 99 1 with
  | some v => v
  | none => 0
def enterM (M : zM) (s r : Int) : zM := setM (setM (setM (setM (setM M s 1 r) s 2 0) s 8 0) s 9 0) s 10 0
def startsM (M : zM) (s r : Int) : zM :=
  if 9 < r then setM M s 7 1
  else if (enterM M s r 67 (20 * s + 0) + r) % enterM M s r 64 0 ≠ s then setTimerM (enterM M s r) s 0
  else if 0 ≤ enterM M s r 67 (20 * s + 5) then sendsM (enterM M s r) s 0 (enterM M s r 67 (20 * s + 0)) r (enterM M s r 67 (20 * s + 5)) (enterM M s r 67 (20 * s + 6)) 1
  else sendsM (enterM M s r) s 0 (enterM M s r 67 (20 * s + 0)) r (leastV (enterM M s r) s) (-1) 1
def supP (M : zM) (s r kd : Int) (l : Nat) : Bool := propo M s l && decide (M 69 (6 * (l : Int) + 3) = r) && isR M s (M 69 (6 * (l : Int) + 4)) && decide (manyN M ≤ voteN M s kd (M 67 (20 * s + 0)) r (M 69 (6 * (l : Int) + 4)))
def endM (M : zM) (s r v : Int) : zM :=
  setM (setM (setM (setM (setM (setM (setM (setM (setM (up (up M 68 (12 * s + 2 * M 67 (20 * s + 0)) v) 68 (12 * s + 2 * M 67 (20 * s + 0) + 1) r) s 0 (M 67 (20 * s + 0) + 1)) s 3 (-1)) s 5 (-1)) s 7 0) s (11 + 0) 0) s (11 + 1) 0) s (11 + 2) 0) s 1 0) s 2 0
def dodecM (M : zM) (s r v : Int) : zM := if 5 < endM M s r v 67 (20 * s + 0) then endM M s r v else startsM (endM M s r v) s 0
def decF (M : zM) (s : Int) : Nat → Nat → Option zM
  | 0, _ => none
  | k + 1, r => match fstB (supP M s r 2) (LN M) 0 with
    | some l => some (dodecM M s r (M 69 (6 * (l : Int) + 4)))
    | none => decF M s k (r + 1)
def decidesM (M : zM) (s : Int) : Option zM := decF M s 10 0
def jP (M : zM) (s r : Int) (t l : Nat) : Bool := decide (M 70 (7 * (l : Int) + s) ≠ 0 ∧ M 69 (6 * (l : Int) + 0) = (t : Int) ∧ M 69 (6 * (l : Int) + 2) = M 67 (20 * s + 0) ∧ M 69 (6 * (l : Int) + 3) = r)
def jN (M : zM) (s r : Int) : Int := cntB (fun t => anyB (jP M s r t) (LN M)) (M 64 0).toNat
/-- from ROUND 9 down: k rounds are left above its own -/
def jmpF (M : zM) (s : Int) : Nat → Option zM
  | 0 => none
  | k + 1 => if someN M ≤ jN M s (M 67 (20 * s + 1) + (k : Int) + 1) then some (startsM M s (M 67 (20 * s + 1) + (k : Int) + 1)) else jmpF M s k
def jumpsM (M : zM) (s : Int) : Option zM := jmpF M s (9 - M 67 (20 * s + 1)).toNat
def newP (M : zM) (s : Int) (l : Nat) : Bool := propo M s l && decide (M 69 (6 * (l : Int) + 3) = M 67 (20 * s + 1) ∧ M 69 (6 * (l : Int) + 5) < 0)
def oldP (M : zM) (s : Int) (l : Nat) : Bool := propo M s l && decide (M 69 (6 * (l : Int) + 3) = M 67 (20 * s + 1)) && decide (0 ≤ M 69 (6 * (l : Int) + 5) ∧ M 69 (6 * (l : Int) + 5) ≤ M 67 (20 * s + 1) - 1) && decide (manyN M ≤ voteN M s 1 (M 67 (20 * s + 0)) (M 69 (6 * (l : Int) + 5)) (M 69 (6 * (l : Int) + 4)))
def newV (M : zM) (s : Int) (l : Nat) : Int := if isR M s (M 69 (6 * (l : Int) + 4)) = true ∧ (M 67 (20 * s + 3) < 0 ∨ M 67 (20 * s + 3) = M 69 (6 * (l : Int) + 4)) then M 69 (6 * (l : Int) + 4) else -1
def oldV (M : zM) (s : Int) (l : Nat) : Int := if isR M s (M 69 (6 * (l : Int) + 4)) = true ∧ (M 67 (20 * s + 3) < 0 ∨ M 67 (20 * s + 4) ≤ M 69 (6 * (l : Int) + 5) ∨ M 67 (20 * s + 3) = M 69 (6 * (l : Int) + 4)) then M 69 (6 * (l : Int) + 4) else -1
def prevOldM (M : zM) (s : Int) : Option zM := match fstB (oldP M s) (LN M) 0 with
  | some l => some (castsM M s 1 (oldV M s l))
  | none => none
def prevotesM (M : zM) (s : Int) : Option zM :=
  if M 67 (20 * s + 2) ≠ 0 then none else match fstB (newP M s) (LN M) 0 with
    | some l => some (castsM M s 1 (newV M s l))
    | none => prevOldM M s
def doLockM (M : zM) (s v : Int) : zM :=
  if M 67 (20 * s + 2) = 1 then setM (setM (castsM (setM (setM (setM M s 8 1) s 3 v) s 4 (M 67 (20 * s + 1))) s 2 v) s 5 v) s 6 (M 67 (20 * s + 1))
  else setM (setM (setM M s 8 1) s 5 v) s 6 (M 67 (20 * s + 1))
def locksM (M : zM) (s : Int) : Option zM :=
  if M 67 (20 * s + 2) = 0 ∨ M 67 (20 * s + 8) = 1 then none else match fstB (supP M s (M 67 (20 * s + 1)) 1) (LN M) 0 with
    | some l => some (doLockM M s (M 69 (6 * (l : Int) + 4)))
    | none => none
def nilM (M : zM) (s : Int) : Option zM :=
  if M 67 (20 * s + 2) = 1 ∧ manyN M ≤ voteN M s 1 (M 67 (20 * s + 0)) (M 67 (20 * s + 1)) (-1) then some (castsM M s 2 (-1)) else none
def tim1M (M : zM) (s : Int) : Option zM :=
  if M 67 (20 * s + 2) = 1 ∧ M 67 (20 * s + 9) = 0 ∧ manyN M ≤ voteN M s 1 (M 67 (20 * s + 0)) (M 67 (20 * s + 1)) (-2) then some (setTimerM (setM M s 9 1) s 1) else none
def tim2M (M : zM) (s : Int) : Option zM :=
  if M 67 (20 * s + 10) = 0 ∧ manyN M ≤ voteN M s 2 (M 67 (20 * s + 0)) (M 67 (20 * s + 1)) (-2) then some (setTimerM (setM M s 10 1) s 2) else none
def orM (a b : Option zM) : Option zM := match a with
  | some x => some x
  | none => b
def timersM (M : zM) (s : Int) : Option zM := orM (tim1M M s) (tim2M M s)
def fitsM (M : zM) (s : Int) : Option zM := orM (decidesM M s) (orM (jumpsM M s) (orM (prevotesM M s) (orM (locksM M s) (orM (nilM M s) (timersM M s)))))
def tickM (M : zM) (s : Int) : zM := setM M s 19 (wr (M 67 (20 * s + 19) + 1))
def rulesF (s : Int) : Nat → zM → zM
  | 0, M => M
  | k + 1, M => if M 65 s ≠ 0 ∨ 5 < M 67 (20 * s + 0) then M else match fitsM M s with
    | some M' => rulesF s k (tickM M' s)
    | none => M
def fuelR : Nat := 10000
def rulesM (M : zM) (s : Int) : zM := rulesF s fuelR M
def comesM (M : zM) (l s : Int) : zM := rulesM (up M 70 (7 * l + s) 1) s
def ringM (M : zM) (s k : Int) : zM :=
  if setM M s (11 + k) 0 67 (20 * s + (14 + k)) = 10 * setM M s (11 + k) 0 67 (20 * s + 0) + setM M s (11 + k) 0 67 (20 * s + 1) then
    (if k = 0 ∧ setM M s (11 + k) 0 67 (20 * s + 2) = 0 then castsM (setM M s (11 + k) 0) s 1 (-1)
    else if k = 1 ∧ setM M s (11 + k) 0 67 (20 * s + 2) = 1 then castsM (setM M s (11 + k) 0) s 2 (-1)
    else if k = 2 then startsM (setM M s (11 + k) 0) s (setM M s (11 + k) 0 67 (20 * s + 1) + 1)
    else setM M s (11 + k) 0)
  else setM M s (11 + k) 0
def endsM (M : zM) (s k : Int) : zM := rulesM (ringM M s k) s
