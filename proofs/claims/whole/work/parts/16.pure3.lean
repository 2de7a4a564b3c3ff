/-! ===== what the public calls answer ===== -/
def rFalse (G : zM) (s : Int) : Int := if ¬ (0 ≤ s ∧ s ≤ G 64 0 - 1) then -1 else if G 65 s ≠ 0 ∨ G 64 2 ≠ 0 then -2 else cntB (fun t => decide (up G 65 s 1 65 (t : Int) ≠ 0)) (G 64 0).toNat
def mFalse (G : zM) (s : Int) : zM := if ¬ (0 ≤ s ∧ s ≤ G 64 0 - 1) then G else if G 65 s ≠ 0 ∨ G 64 2 ≠ 0 then G else up G 65 s 1
def rHold (G : zM) (s v : Int) : Int := if ¬ ((0 ≤ s ∧ s ≤ G 64 0 - 1) ∧ 1 ≤ v ∧ v ≤ 99) then -1 else if G 66 (100 * s + v) ≠ 0 then 0 else 1
def mHold (G : zM) (s v : Int) : zM := if ¬ ((0 ≤ s ∧ s ≤ G 64 0 - 1) ∧ 1 ≤ v ∧ v ≤ 99) then G else up G 66 (100 * s + v) 1
def rBegin (G : zM) : Int := if G 64 2 ≠ 0 then -2 else beginM G 64 7
def mBegin (G : zM) : zM := if G 64 2 ≠ 0 then G else beginM G
abbrev okSay (G : zM) (s kd h r v vr : Int) : Prop := (0 ≤ s ∧ s ≤ G 64 0 - 1) ∧ (0 ≤ kd ∧ kd ≤ 2) ∧ (0 ≤ h ∧ h ≤ 5) ∧ (0 ≤ r ∧ r ≤ 9) ∧ (-1 ≤ v ∧ v ≤ 99) ∧ (kd = 0 → 0 ≤ v) ∧ (kd = 0 → -1 ≤ vr ∧ vr ≤ 9)
def rSay (G : zM) (s kd h r v vr : Int) : Int := if ¬ okSay G s kd h r v vr then -1 else if G 65 s = 0 ∨ G 64 2 = 0 then -2 else if G 64 7 = 400 then -3 else G 64 7
def mSay (G : zM) (s kd h r v vr : Int) : zM := if ¬ okSay G s kd h r v vr then G else if G 65 s = 0 ∨ G 64 2 = 0 then G else if G 64 7 = 400 then G else sendsM G s kd h r v (if kd = 0 then vr else -1) 0
def rCome (G : zM) (y x : Int) : Int := if ¬ ((0 ≤ y ∧ y ≤ G 64 7 - 1) ∧ 0 ≤ x ∧ x ≤ G 64 0 - 1) then -1 else if G 70 (7 * y + x) ≠ 0 ∨ G 65 x ≠ 0 then -2 else comesM G y x 64 7
def mCome (G : zM) (y x : Int) : zM := if ¬ ((0 ≤ y ∧ y ≤ G 64 7 - 1) ∧ 0 ≤ x ∧ x ≤ G 64 0 - 1) then G else if G 70 (7 * y + x) ≠ 0 ∨ G 65 x ≠ 0 then G else comesM G y x
def rEnd (G : zM) (x k : Int) : Int := if ¬ ((0 ≤ x ∧ x ≤ G 64 0 - 1) ∧ 0 ≤ k ∧ k ≤ 2) then -1 else if G 67 (20 * x + (11 + k)) = 0 then -2 else endsM G x k 64 7
def mEnd (G : zM) (x k : Int) : zM := if ¬ ((0 ≤ x ∧ x ≤ G 64 0 - 1) ∧ 0 ≤ k ∧ k ≤ 2) then G else if G 67 (20 * x + (11 + k)) = 0 then G else endsM G x k
def rFair (G : zM) (k : Int) : Int := if ¬ (1 ≤ k ∧ k ≤ 30) then -1 else if G 64 2 = 0 then -2 else (fairF k.toNat 0 G).2
def mFair (G : zM) (k : Int) : zM := if ¬ (1 ≤ k ∧ k ≤ 30) then G else if G 64 2 = 0 then G else (fairF k.toNat 0 G).1
def hldN (G : zM) (x : Int) : Nat → Int := cntB (fun v => decide (G 66 (100 * x + (v : Int)) ≠ 0))
def rSeat (G : zM) (x q : Int) : Int :=
  if ¬ ((0 ≤ x ∧ x ≤ G 64 0 - 1) ∧ 0 ≤ q ∧ q ≤ 9) then -1
  else if q = 0 then G 67 (20 * x + 0) else if q = 1 then G 67 (20 * x + 1) else if q = 2 then G 67 (20 * x + 2)
  else if q = 3 then (if G 67 (20 * x + 3) < 0 then -4 else G 67 (20 * x + 3)) else if q = 4 then (if G 67 (20 * x + 3) < 0 then -4 else G 67 (20 * x + 4))
  else if q = 5 then (if G 67 (20 * x + 5) < 0 then -4 else G 67 (20 * x + 5)) else if q = 6 then (if G 67 (20 * x + 5) < 0 then -4 else G 67 (20 * x + 6))
  else if q = 7 then G 67 (20 * x + 11) + 2 * G 67 (20 * x + 12) + 4 * G 67 (20 * x + 13)
  else if q = 8 then (if G 65 x ≠ 0 then 1 else if 5 < G 67 (20 * x + 0) then 2 else if G 67 (20 * x + 7) = 1 then 3 else 0)
  else hldN G x 100
def lstep (a : Int64) (d : Int) : Int64 := a * 1000003 + (zI d).toInt64 + 1 - (a * 1000003 + (zI d).toInt64 + 1) / 2147483648 * 2147483648
def lnkF (f : Nat → Int) : Nat → Int64
  | 0 => 7
  | k + 1 => lstep (lnkF f k) (f k)
def lnkI (f : Nat → Int) (k : Nat) : Int := (lnkF f k).toInt32.toInt
def rDec (G : zM) (x h q : Int) : Int :=
  if ¬ ((0 ≤ x ∧ x ≤ G 64 0 - 1) ∧ (0 ≤ h ∧ h ≤ 5) ∧ 0 ≤ q ∧ q ≤ 2) then -1 else if G 68 (12 * x + 2 * h) < 0 then -4 else if q < 2 then G 68 (12 * x + 2 * h + q) else lnkI (fun k => G 68 (12 * x + 2 * (k : Int))) (h.toNat + 1)
def rLet (G : zM) (y q : Int) : Int := if ¬ ((0 ≤ y ∧ y ≤ G 64 7 - 1) ∧ 0 ≤ q ∧ q ≤ 6) then -1 else if q < 6 then G 69 (6 * y + q) else cntB (fun t => decide (G 70 (7 * y + (t : Int)) ≠ 0)) (G 64 0).toNat
def rVotes (G : zM) (x kd h r v : Int) : Int := if (0 ≤ x ∧ x ≤ G 64 0 - 1) ∧ (1 ≤ kd ∧ kd ≤ 2) ∧ (0 ≤ h ∧ h ≤ 5) ∧ (0 ≤ r ∧ r ≤ 9) ∧ -2 ≤ v ∧ v ≤ 99 then voteN G x kd h r v else -1
def alE (G : zM) (a b : Int) : Nat → Bool
  | 0 => true
  | k + 1 => alE G a b k && decide (G 69 (6 * a + (k : Int)) = G 69 (6 * b + (k : Int)))
def unl (G : zM) (a b : Int) : Bool := alE G a b 4 && decide (G 69 (6 * a + 4) ≠ G 69 (6 * b + 4) ∨ G 69 (6 * a + 5) ≠ G 69 (6 * b + 5))
def shB (G : zM) (x : Int) (a b : Nat) : Bool := decide (G 70 (7 * (b : Int) + x) ≠ 0) && unl G a b
def shA (G : zM) (x t : Int) (a : Nat) : Bool := decide (G 69 (6 * (a : Int) + 0) = t ∧ G 70 (7 * (a : Int) + x) ≠ 0) && anyB (shB G x a) a
def rShown (G : zM) (x t : Int) : Int := if ¬ ((0 ≤ x ∧ x ≤ G 64 0 - 1) ∧ 0 ≤ t ∧ t ≤ G 64 0 - 1) then -1 else bI (anyB (shA G x t) (G 64 7).toNat = true)
def pnS (G : zM) (l : Int) : Nat → Int
  | 0 => 0
  | k + 1 => pnS G l k + (if G 65 (k : Int) ≠ 0 ∨ G 70 (7 * l + (k : Int)) ≠ 0 then 0 else 1)
def pnL (G : zM) : Nat → Int
  | 0 => 0
  | l + 1 => pnL G l + pnS G (l : Int) (G 64 0).toNat
def hgF (G : zM) (least : Int) : Nat → Int
  | 0 => -1
  | k + 1 => if G 65 (k : Int) ≠ 0 ∨ (0 ≤ hgF G least k ∧ ((least ≠ 0 ∧ hgF G least k ≤ G 67 (20 * (k : Int) + 0)) ∨ (least = 0 ∧ G 67 (20 * (k : Int) + 0) ≤ hgF G least k))) then hgF G least k else G 67 (20 * (k : Int) + 0)
def hgN (G : zM) (least : Int) : Int := if hgF G least (G 64 0).toNat < 0 then 0 else hgF G least (G 64 0).toNat
def ulV (G : zM) (h : Int) (k : Nat) : Int := if G 65 (k : Int) ≠ 0 then -1 else G 68 (12 * (k : Int) + 2 * h)
def ulF (G : zM) (h : Int) : Nat → Int
  | 0 => -1
  | k + 1 => if ulF G h k < 0 then ulV G h k else ulF G h k
def ulB (G : zM) (h : Int) : Nat → Bool
  | 0 => false
  | k + 1 => ulB G h k || decide (0 ≤ ulV G h k ∧ 0 ≤ ulF G h k ∧ ulV G h k ≠ ulF G h k)
def ulN (G : zM) : Nat → Int := cntB (fun h => ulB G (h : Int) (G 64 0).toNat)
def rCount (G : zM) (q : Int) : Int :=
  if q = 0 then G 64 0 else if q = 1 then cntB (fun t => decide (G 65 (t : Int) ≠ 0)) (G 64 0).toNat else if q = 2 then G 64 7 else if q = 3 then pnL G (G 64 7).toNat
  else if q = 4 then hgN G 1 else if q = 5 then hgN G 0 else if q = 6 then (if G 64 2 ≠ 0 then 1 else 0) else if q = 7 then 2 * G 64 0 / 3 + 1 else if q = 8 then (G 64 0 - 1) / 3 + 1 else if q = 9 then ulN G 6 else -1
/-- all made anew, for as many seats as there are -/
def anewM (G : zM) : zM := fun i k =>
  if i = 64 then (if k = 2 ∨ k = 7 then 0 else G i k) else if i = 65 then (if 0 ≤ k ∧ k < 7 then 0 else G i k)
  else if i = 66 then (if 0 ≤ k ∧ k < 700 then 0 else G i k) else if i = 67 then (if 0 ≤ k ∧ k < 140 then (if k % 20 = 3 ∨ k % 20 = 5 then -1 else 0) else G i k)
  else if i = 68 then (if 0 ≤ k ∧ k < 84 ∧ k % 2 = 0 then -1 else G i k) else if i = 70 then (if 0 ≤ k ∧ k < 2800 then 0 else G i k) else G i k
def reM (G : zM) (c : Int) : zM := anewM (up (up G 64 1 (G 64 1 + 1)) 64 0 c)
def rSeats (G : zM) (c : Int) : Int := if ¬ (4 ≤ c ∧ c ≤ 7) then -1 else if G 64 1 = 20 then -3 else c
def mSeats (G : zM) (c : Int) : zM := if ¬ (4 ≤ c ∧ c ≤ 7) then G else if G 64 1 = 20 then G else reM G c
theorem pnS_rng (G : zM) (l : Int) : ∀ k : Nat, 0 ≤ pnS G l k ∧ pnS G l k ≤ (k : Int)
  | 0 => by simp [pnS]
  | k + 1 => by
    have h := pnS_rng G l k
    rw [pnS]
    split <;> omega
theorem pnL_rng (G : zM) (h : 4 ≤ G 64 0 ∧ G 64 0 ≤ 7) : ∀ l : Nat, 0 ≤ pnL G l ∧ pnL G l ≤ 7 * (l : Int)
  | 0 => by simp [pnL]
  | l + 1 => by
    have h1 := pnL_rng G h l
    have h2 := pnS_rng G (l : Int) (G 64 0).toNat
    rw [pnL]
    omega
theorem alE_S (G : zM) (a b : Int) (k : Nat) : alE G a b (k + 1) = true ↔ alE G a b k = true ∧ G 69 (6 * a + (k : Int)) = G 69 (6 * b + (k : Int)) := by
  rw [alE, Bool.and_eq_true, decide_eq_true_eq]
theorem ulB_S (G : zM) (h : Int) (k : Nat) : ulB G h (k + 1) = true ↔ ulB G h k = true ∨ (0 ≤ ulV G h k ∧ 0 ≤ ulF G h k ∧ ulV G h k ≠ ulF G h k) := by
  rw [ulB, Bool.or_eq_true, decide_eq_true_eq]
