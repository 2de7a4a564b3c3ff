/-! ===== the game, as functions of the reference's memory (cells 64 to 70) ===== -/
theorem bI_01 (p : Prop) [Decidable p] : bI p = 0 ∨ bI p = 1 := by
  unfold bI
  split <;> simp
theorem bI_t {p : Prop} [Decidable p] (h : p) : bI p = 1 := if_pos h
theorem bI_f {p : Prop} [Decidable p] (h : ¬ p) : bI p = 0 := if_neg h
def anyB (P : Nat → Bool) : Nat → Bool
  | 0 => false
  | n + 1 => anyB P n || P n
def cntB (P : Nat → Bool) : Nat → Int
  | 0 => 0
  | n + 1 => cntB P n + bI (P n = true)
def fstB (P : Nat → Bool) : Nat → Nat → Option Nat
  | 0, _ => none
  | k + 1, i => if P i = true then some i else fstB P k (i + 1)
theorem cntB_rng (P : Nat → Bool) (n : Nat) : 0 ≤ cntB P n ∧ cntB P n ≤ n := by
  induction n with
  | zero => simp [cntB]
  | succ n ih =>
    have h := bI_01 (P n = true)
    simp only [cntB]
    omega
theorem anyB_iff (P : Nat → Bool) (n : Nat) : anyB P n = true ↔ ∃ i, i < n ∧ P i = true := by
  induction n with
  | zero => simp [anyB]
  | succ n ih =>
    rw [anyB, Bool.or_eq_true, ih]
    constructor
    · rintro (⟨i, h1, h2⟩ | h)
      · exact ⟨i, by omega, h2⟩
      · exact ⟨n, by omega, h⟩
    · rintro ⟨i, h1, h2⟩
      by_cases e : i = n
      · exact Or.inr (e ▸ h2)
      · exact Or.inl ⟨i, by omega, h2⟩
theorem anyB_congr {P Q : Nat → Bool} {n : Nat} (h : ∀ i, i < n → P i = Q i) : anyB P n = anyB Q n := by
  induction n with
  | zero => rfl
  | succ n ih => rw [anyB, anyB, ih (fun i hi => h i (by omega)), h n (by omega)]
theorem cntB_congr {P Q : Nat → Bool} {n : Nat} (h : ∀ i, i < n → P i = Q i) : cntB P n = cntB Q n := by
  induction n with
  | zero => rfl
  | succ n ih => rw [cntB, cntB, ih (fun i hi => h i (by omega)), h n (by omega)]
theorem fstB_some {P : Nat → Bool} : ∀ {k i l : Nat}, fstB P k i = some l → i ≤ l ∧ l < i + k ∧ P l = true
  | 0, i, l, h => by simp [fstB] at h
  | k + 1, i, l, h => by
    unfold fstB at h
    by_cases e : P i = true
    · rw [if_pos e] at h
      cases h
      exact ⟨by omega, by omega, e⟩
    · rw [if_neg e] at h
      have := fstB_some h
      exact ⟨by omega, by omega, this.2.2⟩
theorem anyB_S (P : Nat → Bool) (n : Nat) : anyB P (n + 1) = true ↔ anyB P n = true ∨ P n = true := by rw [anyB, Bool.or_eq_true]
theorem cntB_S (P : Nat → Bool) (n : Nat) : cntB P (n + 1) = cntB P n + bI (P n = true) := rfl
theorem bI_1 {p : Prop} [Decidable p] (h : p) : 1 = bI p := (if_pos h).symm
theorem bI_0 {p : Prop} [Decidable p] (h : ¬ p) : 0 = bI p := (if_neg h).symm
theorem bI_c {p q : Prop} [Decidable p] [Decidable q] (h : p ↔ q) : bI p = bI q := by
  unfold bI
  by_cases hp : p
  · rw [if_pos hp, if_pos (h.mp hp)]
  · rw [if_neg hp, if_neg (fun z => hp (h.mpr z))]
/-- numbers of the game -/
def manyN (M : zM) : Int := 2 * M 64 0 / 3 + 1
def someN (M : zM) : Int := (M 64 0 - 1) / 3 + 1
def isR (M : zM) (s v : Int) : Bool := decide (v = 0) || !(anyB (fun h => decide (M 68 (12 * s + 2 * (h : Int)) = v)) 6)
def vP (M : zM) (s kd h r v : Int) (t l : Nat) : Bool := decide (M 70 (7 * (l : Int) + s) ≠ 0 ∧ M 69 (6 * (l : Int) + 0) = (t : Int) ∧ M 69 (6 * (l : Int) + 1) = kd ∧ M 69 (6 * (l : Int) + 2) = h ∧ M 69 (6 * (l : Int) + 3) = r ∧ (v = -2 ∨ M 69 (6 * (l : Int) + 4) = v))
def voteN (M : zM) (s kd h r v : Int) : Int := cntB (fun t => anyB (vP M s kd h r v t) (M 64 7).toNat) (M 64 0).toNat
def propo (M : zM) (s : Int) (l : Nat) : Bool := decide (M 70 (7 * (l : Int) + s) ≠ 0 ∧ M 69 (6 * (l : Int) + 1) = 0 ∧ M 69 (6 * (l : Int) + 2) = M 67 (20 * s + 0) ∧ M 69 (6 * (l : Int) + 0) = (M 69 (6 * (l : Int) + 2) + M 69 (6 * (l : Int) + 3)) % M 64 0)
def cameN (G : zM) (L s own : Int) : Nat → zM
  | 0 => G
  | k + 1 => up (cameN G L s own k) 70 (7 * L + (k : Int)) (bI (own ≠ 0 ∧ (k : Int) = s))
theorem cameN_ne (G : zM) (L s own : Int) (k : Nat) {i : Nat} (h : i ≠ 70) : cameN G L s own k i = G i := by
  induction k with
  | zero => rfl
  | succ k ih => rw [cameN, up_cell _ _ _ h, ih]
def sendsM (M : zM) (s kd h r v vr own : Int) : zM :=
  if M 64 7 = 400 then M else
    up (cameN (up (up (up (up (up (up M 69 (6 * M 64 7 + 0) s) 69 (6 * M 64 7 + 1) kd) 69 (6 * M 64 7 + 2) h) 69 (6 * M 64 7 + 3) r) 69 (6 * M 64 7 + 4) v) 69 (6 * M 64 7 + 5) vr) (M 64 7) s own 7) 64 7 (M 64 7 + 1)
def setM (M : zM) (s k v : Int) : zM := up M 67 (20 * s + k) v
theorem setM_ne (M : zM) (s k v : Int) (j : Int) (h : j ≠ 20 * s + k) : setM M s k v 67 j = M 67 j := by simp [setM, up, h]
theorem setM_eq (M : zM) (s k v : Int) (j : Int) (h : j = 20 * s + k) : setM M s k v 67 j = v := by simp [setM, up, h]
theorem setM_cell (M : zM) (s k v : Int) {i : Nat} (h : i ≠ 67) : setM M s k v i = M i := up_cell _ _ _ h
def castsM (M : zM) (s kd v : Int) : zM := setM (sendsM M s kd (M 67 (20 * s + 0)) (M 67 (20 * s + 1)) v (-1) 1) s 2 kd
def setTimerM (M : zM) (s k : Int) : zM := setM (setM M s (11 + k) 1) s (14 + k) (10 * setM M s (11 + k) 1 67 (20 * s + 0) + setM M s (11 + k) 1 67 (20 * s + 1))
def leastP (M : zM) (s : Int) (v : Nat) : Bool := decide (M 66 (100 * s + (v : Int)) ≠ 0) && isR M s v
def leastV (M : zM) (s : Int) : Int := match fstB (leastP M s) 99 1 with
  | some v => v
  | none => 0
def enterM (M : zM) (s r : Int) : zM := setM (setM (setM (setM (setM M s 1 r) s 2 0) s 8 0) s 9 0) s 10 0
def startsM (M : zM) (s r : Int) : zM :=
  if 9 < r then setM M s 7 1
  else if (enterM M s r 67 (20 * s + 0) + r) % enterM M s r 64 0 ≠ s then setTimerM (enterM M s r) s 0
  else if 0 ≤ enterM M s r 67 (20 * s + 5) then sendsM (enterM M s r) s 0 (enterM M s r 67 (20 * s + 0)) r (enterM M s r 67 (20 * s + 5)) (enterM M s r 67 (20 * s + 6)) 1
  else sendsM (enterM M s r) s 0 (enterM M s r 67 (20 * s + 0)) r (leastV (enterM M s r) s) (-1) 1
def supP (M : zM) (s r kd : Int) (l : Nat) : Bool := propo M s l && decide (M 69 (6 * (l : Int) + 3) = r) && isR M s (M 69 (6 * (l : Int) + 4)) && decide (manyN M ≤ voteN M s kd (M 67 (20 * s + 0)) r (M 69 (6 * (l : Int) + 4)))
def tmN (M : zM) (s : Int) : Nat → zM
  | 0 => M
  | k + 1 => setM (tmN M s k) s (11 + (k : Int)) 0
def endM (M : zM) (s r v : Int) : zM :=
  setM (setM (tmN (setM (setM (setM (setM (up (up M 68 (12 * s + 2 * M 67 (20 * s + 0)) v) 68 (12 * s + 2 * M 67 (20 * s + 0) + 1) r) s 0 (M 67 (20 * s + 0) + 1)) s 3 (-1)) s 5 (-1)) s 7 0) s 3) s 1 0) s 2 0
def dodecM (M : zM) (s r v : Int) : zM := if 5 < endM M s r v 67 (20 * s + 0) then endM M s r v else startsM (endM M s r v) s 0
def decF (M : zM) (s : Int) : Nat → Nat → Option zM
  | 0, _ => none
  | k + 1, r => match fstB (supP M s r 2) (M 64 7).toNat 0 with
    | some l => some (dodecM M s r (M 69 (6 * (l : Int) + 4)))
    | none => decF M s k (r + 1)
def decidesM (M : zM) (s : Int) : Option zM := decF M s 10 0
def jP (M : zM) (s r : Int) (t l : Nat) : Bool := decide (M 70 (7 * (l : Int) + s) ≠ 0 ∧ M 69 (6 * (l : Int) + 0) = (t : Int) ∧ M 69 (6 * (l : Int) + 2) = M 67 (20 * s + 0) ∧ M 69 (6 * (l : Int) + 3) = r)
def jN (M : zM) (s r : Int) : Int := cntB (fun t => anyB (jP M s r t) (M 64 7).toNat) (M 64 0).toNat
/-- from ROUND 9 down: k rounds are left above its own -/
def jmpF (M : zM) (s : Int) : Nat → Option zM
  | 0 => none
  | k + 1 => if someN M ≤ jN M s (M 67 (20 * s + 1) + (k : Int) + 1) then some (startsM M s (M 67 (20 * s + 1) + (k : Int) + 1)) else jmpF M s k
def jumpsM (M : zM) (s : Int) : Option zM := jmpF M s (9 - M 67 (20 * s + 1)).toNat
def newP (M : zM) (s : Int) (l : Nat) : Bool := propo M s l && decide (M 69 (6 * (l : Int) + 3) = M 67 (20 * s + 1) ∧ M 69 (6 * (l : Int) + 5) < 0)
def oldP (M : zM) (s : Int) (l : Nat) : Bool := propo M s l && decide (M 69 (6 * (l : Int) + 3) = M 67 (20 * s + 1)) && decide (0 ≤ M 69 (6 * (l : Int) + 5) ∧ M 69 (6 * (l : Int) + 5) ≤ M 67 (20 * s + 1) - 1) && decide (manyN M ≤ voteN M s 1 (M 67 (20 * s + 0)) (M 69 (6 * (l : Int) + 5)) (M 69 (6 * (l : Int) + 4)))
def newV (M : zM) (s : Int) (l : Nat) : Int := if isR M s (M 69 (6 * (l : Int) + 4)) = true ∧ (M 67 (20 * s + 3) < 0 ∨ M 67 (20 * s + 3) = M 69 (6 * (l : Int) + 4)) then M 69 (6 * (l : Int) + 4) else -1
def oldV (M : zM) (s : Int) (l : Nat) : Int := if isR M s (M 69 (6 * (l : Int) + 4)) = true ∧ (M 67 (20 * s + 3) < 0 ∨ M 67 (20 * s + 4) ≤ M 69 (6 * (l : Int) + 5) ∨ M 67 (20 * s + 3) = M 69 (6 * (l : Int) + 4)) then M 69 (6 * (l : Int) + 4) else -1
def prevOldM (M : zM) (s : Int) : Option zM := match fstB (oldP M s) (M 64 7).toNat 0 with
  | some l => some (castsM M s 1 (oldV M s l))
  | none => none
def prevotesM (M : zM) (s : Int) : Option zM :=
  if M 67 (20 * s + 2) ≠ 0 then none else match fstB (newP M s) (M 64 7).toNat 0 with
    | some l => some (castsM M s 1 (newV M s l))
    | none => prevOldM M s
def doLockM (M : zM) (s v : Int) : zM :=
  if M 67 (20 * s + 2) = 1 then setM (setM (castsM (setM (setM (setM M s 8 1) s 3 v) s 4 (M 67 (20 * s + 1))) s 2 v) s 5 v) s 6 (M 67 (20 * s + 1))
  else setM (setM (setM M s 8 1) s 5 v) s 6 (M 67 (20 * s + 1))
def locksM (M : zM) (s : Int) : Option zM :=
  if M 67 (20 * s + 2) = 0 ∨ M 67 (20 * s + 8) = 1 then none else match fstB (supP M s (M 67 (20 * s + 1)) 1) (M 64 7).toNat 0 with
    | some l => some (doLockM M s (M 69 (6 * (l : Int) + 4)))
    | none => none
def nilM (M : zM) (s : Int) : Option zM :=
  if M 67 (20 * s + 2) = 1 ∧ manyN M ≤ voteN M s 1 (M 67 (20 * s + 0)) (M 67 (20 * s + 1)) (-1) then some (castsM M s 2 (-1)) else none
def tim1M (M : zM) (s : Int) : Option zM :=
  if M 67 (20 * s + 2) = 1 ∧ M 67 (20 * s + 9) = 0 ∧ manyN M ≤ voteN M s 1 (M 67 (20 * s + 0)) (M 67 (20 * s + 1)) (-2) then some (setTimerM (setM M s 9 1) s 1) else none
def tim2M (M : zM) (s : Int) : Option zM :=
  if M 67 (20 * s + 10) = 0 ∧ manyN M ≤ voteN M s 2 (M 67 (20 * s + 0)) (M 67 (20 * s + 1)) (-2) then some (setTimerM (setM M s 10 1) s 2) else none
def orM (a b : Option zM) : Option zM := match a with
  | some x => some x
  | none => b
def timersM (M : zM) (s : Int) : Option zM := orM (tim1M M s) (tim2M M s)
def fitsM (M : zM) (s : Int) : Option zM := orM (decidesM M s) (orM (jumpsM M s) (orM (prevotesM M s) (orM (locksM M s) (orM (nilM M s) (timersM M s)))))
def tickM (M : zM) (s : Int) : zM := setM M s 19 (wr (M 67 (20 * s + 19) + 1))
def rulesF (s : Int) : Nat → zM → zM
  | 0, M => M
  | k + 1, M => if M 65 s ≠ 0 ∨ 5 < M 67 (20 * s + 0) then M else match fitsM M s with
    | some M' => rulesF s k (tickM M' s)
    | none => M
def fuelR : Nat := 10000
def rulesM (M : zM) (s : Int) : zM := rulesF s fuelR M
def comesM (M : zM) (l s : Int) : zM := rulesM (up M 70 (7 * l + s) 1) s
def ringM (M : zM) (s k : Int) : zM :=
  if setM M s (11 + k) 0 67 (20 * s + (14 + k)) = 10 * setM M s (11 + k) 0 67 (20 * s + 0) + setM M s (11 + k) 0 67 (20 * s + 1) then
    (if k = 0 ∧ setM M s (11 + k) 0 67 (20 * s + 2) = 0 then castsM (setM M s (11 + k) 0) s 1 (-1)
    else if k = 1 ∧ setM M s (11 + k) 0 67 (20 * s + 2) = 1 then castsM (setM M s (11 + k) 0) s 2 (-1)
    else if k = 2 then startsM (setM M s (11 + k) 0) s (setM M s (11 + k) 0 67 (20 * s + 1) + 1)
    else setM M s (11 + k) 0)
  else setM M s (11 + k) 0
def endsM (M : zM) (s k : Int) : zM := rulesM (ringM M s k) s
/-- what always holds of the memory -/
def SeatI (M : zM) (s : Int) : Prop :=
  (M 65 s = 0 ∨ M 65 s = 1) ∧ (0 ≤ M 67 (20 * s + 0) ∧ M 67 (20 * s + 0) ≤ 6) ∧ (0 ≤ M 67 (20 * s + 1) ∧ M 67 (20 * s + 1) ≤ 9) ∧ (0 ≤ M 67 (20 * s + 2) ∧ M 67 (20 * s + 2) ≤ 2) ∧
  (-1 ≤ M 67 (20 * s + 3) ∧ M 67 (20 * s + 3) ≤ 99) ∧ (0 ≤ M 67 (20 * s + 3) → 0 ≤ M 67 (20 * s + 4) ∧ M 67 (20 * s + 4) ≤ 9) ∧ (-1 ≤ M 67 (20 * s + 5) ∧ M 67 (20 * s + 5) ≤ 99) ∧ (0 ≤ M 67 (20 * s + 5) → 0 ≤ M 67 (20 * s + 6) ∧ M 67 (20 * s + 6) ≤ 9) ∧
  (M 67 (20 * s + 7) = 0 ∨ M 67 (20 * s + 7) = 1) ∧ (M 67 (20 * s + 8) = 0 ∨ M 67 (20 * s + 8) = 1) ∧ (M 67 (20 * s + 9) = 0 ∨ M 67 (20 * s + 9) = 1) ∧ (M 67 (20 * s + 10) = 0 ∨ M 67 (20 * s + 10) = 1) ∧
  (M 67 (20 * s + 11) = 0 ∨ M 67 (20 * s + 11) = 1) ∧ (M 67 (20 * s + 12) = 0 ∨ M 67 (20 * s + 12) = 1) ∧ (M 67 (20 * s + 13) = 0 ∨ M 67 (20 * s + 13) = 1) ∧
  (M 67 (20 * s + 11) = 1 → 0 ≤ M 67 (20 * s + 14) ∧ M 67 (20 * s + 14) ≤ 69) ∧ (M 67 (20 * s + 12) = 1 → 0 ≤ M 67 (20 * s + 15) ∧ M 67 (20 * s + 15) ≤ 69) ∧ (M 67 (20 * s + 13) = 1 → 0 ≤ M 67 (20 * s + 16) ∧ M 67 (20 * s + 16) ≤ 69) ∧
  (M 65 s = 1 ∨ 5 < M 67 (20 * s + 0) → M 67 (20 * s + 11) = 0 ∧ M 67 (20 * s + 12) = 0 ∧ M 67 (20 * s + 13) = 0)
def DecI (M : zM) (s : Int) : Prop := ∀ h : Int, 0 ≤ h → h < 6 → (-1 ≤ M 68 (12 * s + 2 * h) ∧ M 68 (12 * s + 2 * h) ≤ 99) ∧ (0 ≤ M 68 (12 * s + 2 * h) ↔ h < M 67 (20 * s + 0)) ∧ (0 ≤ M 68 (12 * s + 2 * h) → 0 ≤ M 68 (12 * s + 2 * h + 1) ∧ M 68 (12 * s + 2 * h + 1) ≤ 9)
def LetI (M : zM) (l : Int) : Prop :=
  (0 ≤ M 69 (6 * l + 0) ∧ M 69 (6 * l + 0) < M 64 0) ∧ (0 ≤ M 69 (6 * l + 1) ∧ M 69 (6 * l + 1) ≤ 2) ∧ (0 ≤ M 69 (6 * l + 2) ∧ M 69 (6 * l + 2) ≤ 5) ∧ (0 ≤ M 69 (6 * l + 3) ∧ M 69 (6 * l + 3) ≤ 9) ∧
  (-1 ≤ M 69 (6 * l + 4) ∧ M 69 (6 * l + 4) ≤ 99) ∧ (M 69 (6 * l + 1) = 0 → 0 ≤ M 69 (6 * l + 4)) ∧ (-1 ≤ M 69 (6 * l + 5) ∧ M 69 (6 * l + 5) ≤ 9)
def CamI (M : zM) (l : Int) : Prop := ∀ s : Int, 0 ≤ s → s < 7 → (M 70 (7 * l + s) = 0 ∨ M 70 (7 * l + s) = 1) ∧ (M 64 0 ≤ s → M 70 (7 * l + s) = 0)
def Inv (M : zM) : Prop :=
  (4 ≤ M 64 0 ∧ M 64 0 ≤ 7) ∧ (0 ≤ M 64 1 ∧ M 64 1 ≤ 20) ∧ (M 64 2 = 0 ∨ M 64 2 = 1) ∧ (0 ≤ M 64 7 ∧ M 64 7 ≤ 400) ∧
  (∀ s : Int, 0 ≤ s → s < 7 → SeatI M s ∧ DecI M s) ∧ (∀ l : Int, 0 ≤ l → l < M 64 7 → LetI M l ∧ CamI M l) ∧ (∀ s v : Int, 0 ≤ s → s < 7 → 0 ≤ v → v < 100 → M 66 (100 * s + v) = 0 ∨ M 66 (100 * s + v) = 1)
theorem fstB_t {P : Nat → Bool} {k i : Nat} (hk : 0 < k) (h : P i = true) : fstB P k i = some i := by
  cases k with
  | zero => omega
  | succ k => rw [fstB, if_pos h]
theorem fstB_f {P : Nat → Bool} {k i : Nat} (hk : 0 < k) (h : ¬ P i = true) : fstB P k i = fstB P (k - 1) (i + 1) := by
  cases k with
  | zero => omega
  | succ k => rw [fstB, if_neg h]; rfl
theorem jmpF_S {M : zM} {s r : Int} {k : Nat} (hk : 0 < k) (hr : r = M 67 (20 * s + 1) + (k : Int)) : jmpF M s k = if someN M ≤ jN M s r then some (startsM M s r) else jmpF M s (k - 1) := by
  cases k with
  | zero => omega
  | succ k =>
    have e : M 67 (20 * s + 1) + (k : Int) + 1 = r := by omega
    rw [jmpF, e]
    rfl
theorem getD_no {a : Option zM} {G : zM} (h : ¬ a.isSome = true) : a.getD G = G := by
  cases a with
  | none => rfl
  | some x => exact absurd rfl h
theorem orM_no {a b : Option zM} (h : ¬ a.isSome = true) : orM a b = b := by
  cases a with
  | none => rfl
  | some x => exact absurd rfl h
theorem orM_yes {a b : Option zM} (h : a.isSome = true) : orM a b = a := by
  cases a with
  | none => cases h
  | some x => rfl
theorem voteN_rng (M : zM) (s kd h r v : Int) : 0 ≤ voteN M s kd h r v ∧ voteN M s kd h r v ≤ (M 64 0).toNat := cntB_rng _ _
theorem seat_rng {M : zM} {s : Int} (hI : Inv M) (h : 0 ≤ s ∧ s < 7) : 0 ≤ M 67 (20 * s + 0) ∧ M 67 (20 * s + 0) ≤ 6 ∧ 0 ≤ M 67 (20 * s + 1) ∧ M 67 (20 * s + 1) ≤ 9 ∧ 0 ≤ M 67 (20 * s + 2) ∧ M 67 (20 * s + 2) ≤ 2 ∧ -1 ≤ M 67 (20 * s + 3) ∧ M 67 (20 * s + 3) ≤ 99 ∧ -1 ≤ M 67 (20 * s + 5) ∧ M 67 (20 * s + 5) ≤ 99 := by
  obtain ⟨-, a, b, c, d, -, e, -⟩ := (hI.2.2.2.2.1 s h.1 h.2).1
  exact ⟨a.1, a.2, b.1, b.2, c.1, c.2, d.1, d.2, e.1, e.2⟩
theorem let_rng {M : zM} {l : Int} (hI : Inv M) (h : 0 ≤ l ∧ l < M 64 7) : 0 ≤ M 69 (6 * l + 0) ∧ M 69 (6 * l + 0) < M 64 0 ∧ 0 ≤ M 69 (6 * l + 1) ∧ M 69 (6 * l + 1) ≤ 2 ∧ 0 ≤ M 69 (6 * l + 2) ∧ M 69 (6 * l + 2) ≤ 5 ∧ 0 ≤ M 69 (6 * l + 3) ∧ M 69 (6 * l + 3) ≤ 9 ∧ -1 ≤ M 69 (6 * l + 4) ∧ M 69 (6 * l + 4) ≤ 99 ∧ -1 ≤ M 69 (6 * l + 5) ∧ M 69 (6 * l + 5) ≤ 9 := by
  obtain ⟨a, b, c, d, e, -, f⟩ := (hI.2.2.2.2.2.1 l h.1 h.2).1
  exact ⟨a.1, a.2, b.1, b.2, c.1, c.2, d.1, d.2, e.1, e.2, f.1, f.2⟩
theorem enterM_ne (M : zM) (s r j : Int) (h : j ≠ 20 * s + 1 ∧ j ≠ 20 * s + 2 ∧ j ≠ 20 * s + 8 ∧ j ≠ 20 * s + 9 ∧ j ≠ 20 * s + 10) : enterM M s r 67 j = M 67 j := by
  unfold enterM
  rw [setM_ne _ _ _ _ _ h.2.2.2.2, setM_ne _ _ _ _ _ h.2.2.2.1, setM_ne _ _ _ _ _ h.2.2.1, setM_ne _ _ _ _ _ h.2.1, setM_ne _ _ _ _ _ h.1]
theorem enterM_1 (M : zM) (s r : Int) : enterM M s r 67 (20 * s + 1) = r := by
  unfold enterM
  rw [setM_ne _ _ _ _ _ (by omega), setM_ne _ _ _ _ _ (by omega), setM_ne _ _ _ _ _ (by omega), setM_ne _ _ _ _ _ (by omega), setM_eq _ _ _ _ _ rfl]
theorem tmN_ne (M : zM) (s j : Int) (h : j < 20 * s + 11) : ∀ k : Nat, tmN M s k 67 j = M 67 j
  | 0 => rfl
  | k + 1 => by rw [tmN, setM_ne _ _ _ _ _ (by omega), tmN_ne M s j h k]
theorem endM_0 (M : zM) (s r v : Int) : endM M s r v 67 (20 * s + 0) = M 67 (20 * s + 0) + 1 := by
  unfold endM
  rw [setM_ne _ _ _ _ _ (by omega), setM_ne _ _ _ _ _ (by omega), tmN_ne _ _ _ (by omega), setM_ne _ _ _ _ _ (by omega), setM_ne _ _ _ _ _ (by omega), setM_ne _ _ _ _ _ (by omega), setM_eq _ _ _ _ _ rfl]
theorem decF_no {M : zM} {s : Int} {k r : Nat} (hk : 0 < k) (h : fstB (supP M s r 2) (M 64 7).toNat 0 = none) : decF M s k r = decF M s (k - 1) (r + 1) := by
  cases k with
  | zero => omega
  | succ k => rw [decF, h]; rfl
theorem decF_yes {M : zM} {s : Int} {k r l : Nat} (hk : 0 < k) (h : fstB (supP M s r 2) (M 64 7).toNat 0 = some l) : decF M s k r = some (dodecM M s r (M 69 (6 * (l : Int) + 4))) := by
  cases k with
  | zero => omega
  | succ k => rw [decF, h]
theorem sendsM_67 (M : zM) (s kd h r v vr own : Int) : sendsM M s kd h r v vr own 67 = M 67 := by
  unfold sendsM
  split
  · rfl
  · rw [up_cell _ _ _ (by decide), cameN_ne _ _ _ _ _ (by decide)]
    rfl
theorem castsM_ne (M : zM) (s kd v j : Int) (h : j ≠ 20 * s + 2) : castsM M s kd v 67 j = M 67 j := by
  unfold castsM
  rw [setM_ne _ _ _ _ _ h, sendsM_67]
theorem mod_rng (a : Int) {n : Int} (h : 4 ≤ n ∧ n ≤ 7) : 0 ≤ a % n ∧ a % n < 7 := by
  have h1 := Int.emod_nonneg a (show n ≠ 0 by omega)
  have h2 := Int.emod_lt_of_pos a (show 0 < n by omega)
  omega
