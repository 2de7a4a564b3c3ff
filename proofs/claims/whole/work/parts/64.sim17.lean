/-! ===== a seat as made, before it is cleared ===== -/
def zS0 (j : Nat) : zM := fun i k => if i = 8 + 8 * j ∧ k = 0 then (j : Int) else if (i = 8 + 8 * j + 1 ∨ i = 8 + 8 * j + 2) ∧ (k = 0 ∨ k = 1) then -4 else 0
theorem zS0_rng {j : Nat} (hj : j < 7) : zRng (zS0 j) := by
  intro i k
  unfold zS0
  split
  · omega
  · split <;> omega
theorem zS0_A (w : zW) (j : Nat) : ∀ i, (8 + 8 * j ≤ i ∧ i < 8 + 8 * j + 8) → aN w (8 + 8 * j) (8 + 8 * j + 1) (w.2.1 + i) := fun i h => by
  unfold aN
  omega
theorem zS0_z (j o : Nat) (h : o ≠ 1 ∧ o ≠ 2) (k : Int) (hk : o = 0 → k ≠ 0) : zS0 j (8 + 8 * j + o) k = 0 := by
  unfold zS0
  rw [if_neg (fun q => hk (by omega) q.2), if_neg (fun q => by omega)]
theorem zS0_0 (w : zW) (j : Nat) : (.inr (6, [.int (zI (j : Int)), .int 0, .int 0, .int 0, .int 0, .int 0, .int 0, .int 0, .int 0, .int 0, .ref (w.2.1 + (8 + 8 * j + 1)), .ref (w.2.1 + (8 + 8 * j + 2)), .ref (w.2.1 + (8 + 8 * j + 3)), .ref (w.2.1 + (8 + 8 * j + 6)), .ref (w.2.1 + (8 + 8 * j + 7))]) : va_E) = zC w 6 0 (8 + 8 * j) (zS0 j (8 + 8 * j)) := by
  have h0 : zS0 j (8 + 8 * j) 0 = (j : Int) := if_pos ⟨rfl, rfl⟩
  have h : ∀ k : Int, k ≠ 0 → zS0 j (8 + 8 * j) k = 0 := fun k hk => zS0_z j 0 (by omega) k (fun _ => hk)
  show _ = Sum.inr (6, zFs w 6 (8 + 8 * j) (zS0 j (8 + 8 * j)))
  unfold zFs
  rw [h0, h 1 (by decide), h 2 (by decide), h 3 (by decide), h 4 (by decide), h 5 (by decide), h 6 (by decide), h 7 (by decide), h 8 (by decide), h 9 (by decide)]
  rfl
theorem zS0_m (j o : Nat) (h : o = 1 ∨ o = 2) : zS0 j (8 + 8 * j + o) 0 = -4 ∧ zS0 j (8 + 8 * j + o) 1 = -4 := by
  unfold zS0
  rw [if_neg (by omega), if_pos (by omega), if_neg (by omega), if_pos (by omega)]
  exact ⟨rfl, rfl⟩
theorem zS0_1 (w : zW) (j : Nat) : (.inr (3, [.int (zI (-4)), .int (zI (-4))]) : va_E) = zC w 3 0 (8 + 8 * j + 1) (zS0 j (8 + 8 * j + 1)) := by
  show _ = Sum.inr (3, zFs w 3 (8 + 8 * j + 1) (zS0 j (8 + 8 * j + 1)))
  unfold zFs
  rw [(zS0_m j 1 (by omega)).1, (zS0_m j 1 (by omega)).2]
  rfl
theorem zS0_2 (w : zW) (j : Nat) : (.inr (3, [.int (zI (-4)), .int (zI (-4))]) : va_E) = zC w 3 0 (8 + 8 * j + 2) (zS0 j (8 + 8 * j + 2)) := by
  show _ = Sum.inr (3, zFs w 3 (8 + 8 * j + 2) (zS0 j (8 + 8 * j + 2)))
  unfold zFs
  rw [(zS0_m j 2 (by omega)).1, (zS0_m j 2 (by omega)).2]
  rfl
theorem zS0_3 (w : zW) (j : Nat) : (.inr (0, [.ref (w.2.1 + (8 + 8 * j + 4)), .ref (w.2.1 + (8 + 8 * j + 4 + 1))]) : va_E) = zC w 0 0 (8 + 8 * j + 3) (zS0 j (8 + 8 * j + 3)) := rfl
theorem zS0_f (j o : Nat) (h : 3 ≤ o) : (fun q : Nat => zI (zS0 j (8 + 8 * j + o) (q : Int))) = fun _ => (0 : Int32) := by
  funext q
  rw [zS0_z j o (by omega) _ (by omega)]
  rfl
theorem zS0_4 (w : zW) (j : Nat) : (.inl (w.2.2.1, 6, .inl (fun _ => 0)) : va_E) = zC w 9 6 (8 + 8 * j + 4) (zS0 j (8 + 8 * j + 4)) := by
  show _ = Sum.inl (w.2.2.1, 6, Sum.inl (fun q : Nat => zI (zS0 j (8 + 8 * j + 4) (q : Int))))
  rw [zS0_f j 4 (by omega)]
theorem zS0_5 (w : zW) (j : Nat) : (.inl (w.2.2.1, 6, .inl (fun _ => 0)) : va_E) = zC w 9 6 (8 + 8 * j + 5) (zS0 j (8 + 8 * j + 5)) := by
  show _ = Sum.inl (w.2.2.1, 6, Sum.inl (fun q : Nat => zI (zS0 j (8 + 8 * j + 5) (q : Int))))
  rw [zS0_f j 5 (by omega)]
theorem zS0_6 (w : zW) (j : Nat) : (.inl (w.2.2.2.1, 100, .inl (fun _ => 0)) : va_E) = zC w 10 100 (8 + 8 * j + 6) (zS0 j (8 + 8 * j + 6)) := by
  show _ = Sum.inl (w.2.2.2.1, 100, Sum.inl (fun q : Nat => zI (zS0 j (8 + 8 * j + 6) (q : Int))))
  rw [zS0_f j 6 (by omega)]
theorem zS0_7 (w : zW) (j : Nat) : (.inl (w.2.2.1, 3, .inl (fun _ => 0)) : va_E) = zC w 9 3 (8 + 8 * j + 7) (zS0 j (8 + 8 * j + 7)) := by
  show _ = Sum.inl (w.2.2.1, 3, Sum.inl (fun q : Nat => zI (zS0 j (8 + 8 * j + 7) (q : Int))))
  rw [zS0_f j 7 (by omega)]
