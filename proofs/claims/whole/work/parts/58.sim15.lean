theorem msk_own0 (x : Int) : (0 : Int) = msk (fun t => decide ((0 : Int) ≠ 0 ∧ (t : Int) = x)) 7 := by
  rw [msk_congr (Q := fun _ => false) (fun i _ => by
    rw [decide_eq_false_iff_not]
    exact fun z => z.1 rfl), msk_none]
theorem tim_no {X : zM} {s k : Int} (hI : Inv X) (h0 : 0 ≤ s ∧ s < 7) (hk : 0 ≤ k ∧ k < 3) (h : X 65 s ≠ 0) : ¬ X 67 (20 * s + (11 + k)) = 1 := by
  intro z
  have q := tim_set hI h0 hk (by rw [z]; decide)
  exact h q.1
def ringT (Y : zM) : zM × Int := rgS (Y 64 0).toNat 0 Y 0
theorem Nx_ringT {M : zM} (hI : Inv M) : Nx M (ringT M).1 ∧ ((ringT M).2 = 0 ∨ (ringT M).2 = 1) := Nx_rgS _ 0 hI (by have := hI.1; omega) (Or.inl rfl)
theorem turns_t {M : zM} (h : (bringM M).2 ≠ 0) : turnsM M = ((bringM M).1, 1) := if_pos h
theorem turns_f {M : zM} (hI : Inv M) (h : ¬ (bringM M).2 ≠ 0) : turnsM M = ringT (bringM M).1 := by
  unfold turnsM ringT
  rw [if_neg h, (Nx_bring hI).1.2.1.1]
theorem beginS_le {Y B : zM} {i n : Nat} (hI : Inv Y) (hi : (i : Int) + ((n - i : Nat) : Int) ≤ Y 64 0) (h : ∀ z : Int, (i : Int) ≤ z → z < Y 64 0 → Y 67 (20 * z + 0) ≤ 5) (e : beginS (n - i) i Y = B) : Y 64 7 ≤ B 64 7 := by
  rw [← e]
  exact (Nx_beginS (n - i) i hI hi h).2.2.2.2
theorem rm_g {mm u v t : Nat} (a : mm ≤ u) (b : u ≤ v) (c : v ≤ t) : u - mm + 0 + (v - u) ≤ t - mm := by omega
theorem mU_st {mm : Nat} {X Y T : zM} (h : X 64 7 ≤ Y 64 7) (h2 : Y 64 7 ≤ T 64 7) : mU mm X - mm + (mU (mU mm X) Y - mU mm X) ≤ mU mm T - mm := by
  rw [mU_mU h]
  exact rm_b (mU_ge _ _) (mU_mono h) (mU_mono h2)
theorem mU_st8 {mm : Nat} {X Y T : zM} (h : X 64 7 ≤ Y 64 7) (h2 : Y 64 7 ≤ T 64 7) : 8 * (mU mm X - mm) + 8 * (mU (mU mm X) Y - mU mm X) ≤ 8 * (mU mm T - mm) := by
  rw [mU_mU h]
  exact rm_b8 (mU_ge _ _) (mU_mono h) (mU_mono h2)
theorem mU_at {mm : Nat} {X T : zM} (h2 : X 64 7 ≤ T 64 7) : mU mm X - mm + 0 ≤ mU mm T - mm := rm_a (mU_ge _ _) (mU_mono h2)
theorem mU_at8 {mm : Nat} {X T : zM} (h2 : X 64 7 ≤ T 64 7) : 8 * (mU mm X - mm) + 0 ≤ 8 * (mU mm T - mm) := rm_a8 (mU_ge _ _) (mU_mono h2)
