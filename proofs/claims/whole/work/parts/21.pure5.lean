/-! ===== all made anew ===== -/
def fillM (M : zM) (c : Nat) (a : Int) (n : Nat) (v : Int) : zM := fun i k => if i = c ∧ a ≤ k ∧ k < a + (n : Int) then v else M i k
def fil2M (M : zM) (c : Nat) (a : Int) (n : Nat) (v : Int) : zM := fun i k => if i = c ∧ a ≤ k ∧ k < a + 2 * (n : Int) ∧ (k - a) % 2 = 0 then v else M i k
theorem fillM_0 (M : zM) (c : Nat) (a v : Int) : fillM M c a 0 v = M := by
  funext i k
  unfold fillM
  rw [if_neg (by omega)]
theorem fil2M_0 (M : zM) (c : Nat) (a v : Int) : fil2M M c a 0 v = M := by
  funext i k
  unfold fil2M
  rw [if_neg (by omega)]
theorem fillM_S (M : zM) (c : Nat) (a v q : Int) (n : Nat) (hq : q = a + (n : Int)) : up (fillM M c a n v) c q v = fillM M c a (n + 1) v := by
  funext i k
  unfold up fillM
  by_cases h : i = c ∧ k = q
  · rw [if_pos h, if_pos (by omega)]
  · rw [if_neg h]
    by_cases h2 : i = c ∧ a ≤ k ∧ k < a + (n : Int)
    · rw [if_pos h2, if_pos (by omega)]
    · rw [if_neg h2, if_neg (by omega)]
theorem fil2M_S (M : zM) (c : Nat) (a v q : Int) (n : Nat) (hq : q = a + 2 * (n : Int)) : up (fil2M M c a n v) c q v = fil2M M c a (n + 1) v := by
  funext i k
  unfold up fil2M
  by_cases h : i = c ∧ k = q
  · rw [if_pos h, if_pos (by omega)]
  · rw [if_neg h]
    by_cases h2 : i = c ∧ a ≤ k ∧ k < a + 2 * (n : Int) ∧ (k - a) % 2 = 0
    · rw [if_pos h2, if_pos (by omega)]
    · rw [if_neg h2, if_neg (by omega)]
def an1 (M : zM) (i : Nat) : zM := up M 65 (i : Int) 0
def an2 (M : zM) (i : Nat) : zM := up (up (fillM (an1 M i) 67 (20 * (i : Int)) 20 0) 67 (20 * (i : Int) + 3) (-1)) 67 (20 * (i : Int) + 5) (-1)
def anS (M : zM) (i : Nat) : zM := fil2M (an2 M i) 68 (12 * (i : Int)) 6 (-1)
def anL (G : zM) : Nat → zM
  | 0 => G
  | k + 1 => anS (anL G k) k
def anG (G : zM) : zM := up (up G 64 2 0) 64 7 0
def anw (G : zM) (n : Nat) : zM := fun i k =>
  if i = 65 then (if 0 ≤ k ∧ k < (n : Int) then 0 else G i k)
  else if i = 67 then (if 0 ≤ k ∧ k < 20 * (n : Int) then (if k % 20 = 3 ∨ k % 20 = 5 then -1 else 0) else G i k)
  else if i = 68 then (if 0 ≤ k ∧ k < 12 * (n : Int) ∧ k % 2 = 0 then -1 else G i k) else G i k
theorem anw_S (G : zM) (n : Nat) : anS (anw G n) n = anw G (n + 1) := by
  funext i k
  unfold anS fil2M an2 up fillM an1 up anw
  by_cases h5 : i = 65
  · subst h5
    simp only [Nat.reduceEqDiff, false_and, true_and, ↓reduceIte]
    split <;> (try split) <;> (try split) <;> first | rfl | omega
  · by_cases h7 : i = 67
    · subst h7
      simp only [Nat.reduceEqDiff, false_and, true_and, ↓reduceIte]
      by_cases a : k = 20 * (n : Int) + 5
      · rw [if_pos a, if_pos (by omega), if_pos (by omega)]
      · by_cases b : k = 20 * (n : Int) + 3
        · rw [if_neg a, if_pos b, if_pos (by omega), if_pos (by omega)]
        · rw [if_neg a, if_neg b]
          by_cases c : 20 * (n : Int) ≤ k ∧ k < 20 * (n : Int) + ((20 : Nat) : Int)
          · rw [if_pos c, if_pos (by omega), if_neg (by omega)]
          · rw [if_neg c]
            by_cases d : 0 ≤ k ∧ k < 20 * (n : Int)
            · rw [if_pos d, if_pos (show 0 ≤ k ∧ k < 20 * ((n + 1 : Nat) : Int) by omega)]
            · rw [if_neg d, if_neg (by omega)]
    · by_cases h8 : i = 68
      · subst h8
        simp only [Nat.reduceEqDiff, false_and, true_and, ↓reduceIte]
        by_cases c : 12 * (n : Int) ≤ k ∧ k < 12 * (n : Int) + 2 * ((6 : Nat) : Int) ∧ (k - 12 * (n : Int)) % 2 = 0
        · rw [if_pos c, if_pos (by omega)]
        · rw [if_neg c]
          by_cases d : 0 ≤ k ∧ k < 12 * (n : Int) ∧ k % 2 = 0
          · rw [if_pos d, if_pos (by omega)]
          · rw [if_neg d, if_neg (by omega)]
      · simp only [h5, h7, h8, false_and, ↓reduceIte]
theorem anL_w (G : zM) : ∀ n : Nat, anL G n = anw G n
  | 0 => by
    funext i k
    unfold anL anw
    repeat' split
    all_goals first | rfl | omega
  | n + 1 => by rw [anL, anL_w G n, anw_S]
theorem anew_all (G : zM) : fillM (fillM (anL (anG G) 7) 66 0 700 0) 70 0 2800 0 = anewM G := by
  rw [anL_w]
  funext i k
  unfold fillM anw anG up anewM
  by_cases h4 : i = 64
  · subst h4
    simp only [Nat.reduceEqDiff, false_and, true_and, ↓reduceIte]
    by_cases a : k = 7
    · rw [if_pos a, if_pos (Or.inr a)]
    · rw [if_neg a]
      by_cases b : k = 2
      · rw [if_pos b, if_pos (Or.inl b)]
      · rw [if_neg b, if_neg (by omega)]
  · by_cases h5 : i = 65
    · subst h5; simp [-Int.ofNat_eq_natCast]
    · by_cases h6 : i = 66
      · subst h6; simp
      · by_cases h7 : i = 67
        · subst h7; simp
        · by_cases h8 : i = 68
          · subst h8; simp
          · by_cases h0 : i = 70
            · subst h0; simp
            · simp only [h4, h5, h6, h7, h8, h0, false_and, ↓reduceIte]
