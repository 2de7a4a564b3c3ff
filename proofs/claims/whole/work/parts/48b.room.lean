/-! ===== room, in plain numbers ===== -/
theorem mU_ge (u : Nat) (X : zM) : u ≤ mU u X := Nat.le_max_left _ _
theorem mU_mono {u : Nat} {X Y : zM} (h : X 64 7 ≤ Y 64 7) : mU u X ≤ mU u Y := by
  unfold mU
  omega
theorem mU_two {mm : Nat} {X Y Z : zM} (h : X 64 7 ≤ Z 64 7) (h2 : Y 64 7 ≤ Z 64 7) : mU (mU mm X) Y ≤ mU mm Z := by
  unfold mU
  omega
theorem rm_0 (a u : Nat) : a + 0 + (u - u) ≤ a := by omega
theorem rm_8 (a u : Nat) : 8 * a + 0 + 8 * (u - u) ≤ 8 * a := by omega
theorem rm_a {mm u t : Nat} (a : mm ≤ u) (b : u ≤ t) : u - mm + 0 ≤ t - mm := by omega
theorem rm_a8 {mm u t : Nat} (a : mm ≤ u) (b : u ≤ t) : 8 * (u - mm) + 0 ≤ 8 * (t - mm) := by omega
theorem rm_b {mm u v t : Nat} (a : mm ≤ u) (b : u ≤ v) (c : v ≤ t) : u - mm + (v - u) ≤ t - mm := by omega
theorem rm_b8 {mm u v t : Nat} (a : mm ≤ u) (b : u ≤ v) (c : v ≤ t) : 8 * (u - mm) + 8 * (v - u) ≤ 8 * (t - mm) := by omega
theorem rm_w {mm u v : Nat} (a : mm ≤ u) (b : u ≤ v) : u - mm + (v - u) ≤ v - mm := by omega
theorem rm_w8 {mm u v : Nat} (a : mm ≤ u) (b : u ≤ v) : 8 * (u - mm) + 8 * (v - u) ≤ 8 * (v - mm) := by omega
