/-! ===== the law: both objects in one heap ===== -/
theorem Sim_made : Sim (LG 7) X00 0 := by
  have e7 : X00 64 7 = 0 := by decide
  refine ⟨⟨?_, ?_, ?_, ?_, ?_⟩, ⟨by decide, by decide, by decide⟩, ?_, ?_⟩
  · rw [e7]; rfl
  · rw [e7]; omega
  · intro j hj
    rw [if_neg (by omega)]
    unfold LG
    rw [if_pos (by decide), if_neg (by omega), if_pos (by omega)]
  · intro k a b
    rw [nx_zero e7, e7]
    refine ⟨?_, ?_⟩
    · unfold LG
      rw [if_pos (by decide), if_neg (by omega), if_pos (by omega)]
    · unfold LG
      rw [if_pos (by decide), if_neg (by omega), if_pos (by omega)]
      rfl
  · intro l hl
    rw [e7] at hl
    omega
  · intro j hj
    rw [LG7, if_pos (by omega)]
    omega
  · intro j hj
    have e : SeatC (LG 7) X00 j = SeatC (cClr (zS0 j) j) X00 j := by
      unfold SeatC
      rw [LG_seat 7 j _ hj (by omega), LG_seat 7 j _ hj (by omega), LG_seat 7 j _ hj (by omega), LG_seat 7 j _ hj (by omega), LG_seat 7 j _ hj (by omega), LG_seat 7 j _ hj (by omega), LG_seat 7 j _ hj (by omega)]
    rw [e]
    refine SeatC_new hj (if_pos ⟨rfl, rfl⟩) ?_ (fun v a c => ?_) (fun k a c => ?_) (fun h a c => ?_)
    · unfold X00 anewM
      simp only [Nat.reduceEqDiff, ↓reduceIte]
      rw [if_pos (by omega)]
    · unfold X00 anewM
      simp only [Nat.reduceEqDiff, ↓reduceIte]
      rw [if_pos (by omega)]
    · unfold X00 anewM
      simp only [Nat.reduceEqDiff, ↓reduceIte]
      rw [if_pos (by omega)]
      by_cases y : k = 3 ∨ k = 5
      · rw [if_pos (by omega), if_pos y]
      · rw [if_neg (by omega), if_neg y]
    · unfold X00 anewM
      simp only [Nat.reduceEqDiff, ↓reduceIte]
      rw [if_pos (by omega)]
theorem mU_400 {u : Nat} {X : zM} (h : u ≤ 400) (hI : Inv X) : mU u X ≤ 400 := by
  have := hI.2.2.2.1
  unfold mU
  omega
def aC (w : zW) : Nat → Prop := fun q => (w.2.1 ≤ q ∧ q < w.2.1 + 64) ∨ w.2.1 + 71 ≤ q
def aX (w : zW) : Nat → Prop := fun q => w.2.1 + 64 ≤ q ∧ q < w.2.1 + 71
def dX : Nat → Prop := fun i => 64 ≤ i ∧ i < 71
def aL (w : zW) : Nat → Prop := fun q => w.2.1 ≤ q
def sv (xs : Nat → Int32) (j : Nat) : Int := (xs j).toInt
theorem sv_rng (xs : Nat → Int32) (j : Nat) : -2147483648 ≤ sv xs j ∧ sv xs j < 2147483648 := zI_rng _
theorem aC_h (w : zW) : ∀ i, i < 64 ∨ 71 ≤ i → aC w (w.2.1 + i) := fun i h => by
  unfold aC
  omega
theorem aX_h (w : zW) : ∀ i, dX i → aX w (w.2.1 + i) := fun i h => by
  unfold dX at h
  unfold aX
  omega
/-- the law's state: LockedChain's cells, the reference's, nothing else touched -/
def Ls (w : zW) (H0 : Heap) (u : Nat) (C X : zM) (H : Heap) (locs : List Loc) : Prop := Zs w (dC u) (aL w) H0 (w.2.1 + (71 + u)) C H locs ∧ zP w dX X H
theorem Ls.x {w : zW} {H0 : Heap} {u : Nat} {C X : zM} {H : Heap} {locs : List Loc} (h : Ls w H0 u C X H locs) : Zs w dX (aL w) H0 (w.2.1 + (71 + u)) X H locs := ⟨h.1.1, h.2, h.1.2.2⟩
section ZL
variable {p : Program} {l : Launch} {e : Env} {R : Room} {s : State} {m : MethodId} {args : Array Value} {below : List Frame} {meth : Method} {c : Code} {H : Heap} {locs : List Loc} {cells slots : Nat} {Q : State → Prop}
variable {cc : ByteArray} {nL : Nat} {Ts : List Cond} {own : String} {pc : Nat} {ls : Array Slot} {rest st0 : List Value} {a : Array Value}
variable {w : zW} {H0 : Heap} {u : Nat} {C X : zM}
theorem l_callC {mc ms u' : Nat} {z : Int} {Φ : zM → Prop} (hL : Ls w H0 u C X H locs) (hr : va_Run p l e R s m args below meth c H locs cells slots mc ms (F0 m pc ls st0) rest (zQi w (dC u') (w.2.1 + (71 + u')) z Φ (aC w) a) (aC w))
    (kk : ∀ (C1 : zM) (H1 : Heap) (locs1 : List Loc), Φ C1 → Ls w H0 u' C1 X H1 locs1 → W p l e R s m args below meth c H1 locs1 (cells + mc) (slots + ms) Q (F0 m (pc + 3) ls (.int (zI z) :: rest))) : W p l e R s m args below meth c H locs cells slots Q (F0 m pc ls st0) := by
  have hAA : ∀ q, aC w q → aL w q := fun q h => by unfold aC at h; unfold aL; omega
  refine va_calli hr hL.1.2.2 (fun q _ h => hAA q h) hAA (fun r C1 t H1 locs1 ht hvm hw hB hz1 hk1 hS => ?_)
  rw [hw.1]
  refine kk C1 H1 locs1 hw.2 ⟨⟨by rw [← ht]; exact hB.1, by rw [← ht]; exact hB.2, hS⟩, hL.2.1, fun i hi => ?_⟩
  have h := hL.2.2 i hi
  exact h.kept (hk1 _ h.lt (fun z => by unfold aC at z; unfold dX at hi; omega))
theorem l_callX {mc ms : Nat} {z : Int} {X' : zM} (hL : Ls w H0 u C X H locs) (hr : va_Run p l e R s m args below meth c H locs cells slots mc ms (F0 m pc ls st0) rest (zQi w dX (w.2.1 + (71 + u)) z (fun Y => Y = X') (aX w) a) (aX w))
    (kk : ∀ (H1 : Heap) (locs1 : List Loc), Ls w H0 u C X' H1 locs1 → W p l e R s m args below meth c H1 locs1 (cells + mc) (slots + ms) Q (F0 m (pc + 3) ls (.int (zI z) :: rest))) : W p l e R s m args below meth c H locs cells slots Q (F0 m pc ls st0) := by
  have hAA : ∀ q, aX w q → aL w q := fun q h => by unfold aX at h; unfold aL; omega
  refine va_calli hr hL.1.2.2 (fun q _ h => hAA q h) hAA (fun r X1 t H1 locs1 ht hvm hw hB hz1 hk1 hS => ?_)
  rw [hw.1]
  obtain ⟨h1, h2⟩ := hw
  subst h2
  refine kk H1 locs1 ⟨⟨by rw [← ht]; exact hB.1, ⟨hL.1.2.1.1, fun i hi => ?_⟩, hS⟩, by rw [← ht]; exact hB.2⟩
  have h := hL.1.2.1.2 i hi
  exact h.kept (hk1 _ h.lt (fun z => by unfold aX at z; unfold dC at hi; omega))
theorem z_sld (F : CallFix p m c cc nL s args Ts own) {b L : Nat} {xs : Nat → Int32} {A : Nat → Prop} (hX : va_X b L xs s H0) (hbl : b < H0.size) (hbA : ¬ A b) (hS : va_S A H0 H locs) (hL : L ≤ 3584) {z : Int} (j : Nat) (hz : z = (j : Int)) (hj : j < L) (hdg : decode cc pc = .ok (.iaload, 1))
    (k : W p l e R s m args below meth c H locs cells slots Q (F0 m (pc + 1) ls (.int (zI (sv xs j)) :: rest))) : W p l e R s m args below meth c H locs cells slots Q (F0 m pc ls (.int (zI z) :: .ref b :: rest)) := by
  subst hz
  refine va_sld F.1 F.2.1 hX hbl hbA hS (zI_in (by omega) (by omega) (by omega)) hdg ?_
  rw [zI_clamp (by omega) (by omega), show ((j : Int)).toNat = j from rfl]
  rw [sv, zI_of] at k
  exact k
theorem z_slen (F : CallFix p m c cc nL s args Ts own) {b L : Nat} {xs : Nat → Int32} {A : Nat → Prop} (hX : va_X b L xs s H0) (hbl : b < H0.size) (hbA : ¬ A b) (hS : va_S A H0 H locs) (hdg : decode cc pc = .ok (.arraylength, 1))
    (k : W p l e R s m args below meth c H locs cells slots Q (F0 m (pc + 1) ls (.int (zI (L : Int)) :: rest))) : W p l e R s m args below meth c H locs cells slots Q (F0 m pc ls (.ref b :: rest)) := by
  refine va_slen F.1 F.2.1 hX hbl hbA hS hdg ?_
  have hv : Int32.ofNat L = zI L := by unfold zI; rw [Int32.ofInt_eq_ofNat]
  rw [hv]
  exact k
end ZL
