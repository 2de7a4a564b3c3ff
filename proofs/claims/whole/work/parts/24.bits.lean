/-! ===== bits ===== -/
def bAnd (x y : Int) : Int := (zI x &&& zI y).toInt
def bOr (x y : Int) : Int := (zI x ||| zI y).toInt
def bShl (x y : Int) : Int := (zI x <<< (zI y &&& 31)).toInt
def bShr (x y : Int) : Int := (zI x >>> (zI y &&& 31)).toInt
def bUsr (x y : Int) : Int := ((zI x).toUInt32 >>> ((zI y).toUInt32 &&& Int32.toUInt32 31)).toInt32.toInt
theorem bAnd_rng (x y : Int) : -2147483648 ≤ bAnd x y ∧ bAnd x y < 2147483648 := zI_rng _
theorem bOr_rng (x y : Int) : -2147483648 ≤ bOr x y ∧ bOr x y < 2147483648 := zI_rng _
section ZB
variable {p : Program} {l : Launch} {e : Env} {R : Room} {s : State} {m : MethodId} {args : Array Value} {below : List Frame} {meth : Method} {c : Code} {H : Heap} {locs : List Loc} {cells slots : Nat} {Q : State → Prop}
variable {cc : ByteArray} {nL : Nat} {Ts : List Cond} {own : String} {pc : Nat} {ls : Array Slot} {rest : List Value}
theorem z_iand (F : CallFix p m c cc nL s args Ts own) {x y : Int} (hdg : decode cc pc = .ok (.iand, 1)) (k : W p l e R s m args below meth c H locs cells slots Q (F0 m (pc + 1) ls (.int (zI (bAnd x y)) :: rest))) : W p l e R s m args below meth c H locs cells slots Q (F0 m pc ls (.int (zI y) :: .int (zI x) :: rest)) :=
  lv_iand F.1 F.2.1 hdg (by rw [bAnd, zI_of] at k; exact k)
theorem z_ior (F : CallFix p m c cc nL s args Ts own) {x y : Int} (hdg : decode cc pc = .ok (.ior, 1)) (k : W p l e R s m args below meth c H locs cells slots Q (F0 m (pc + 1) ls (.int (zI (bOr x y)) :: rest))) : W p l e R s m args below meth c H locs cells slots Q (F0 m pc ls (.int (zI y) :: .int (zI x) :: rest)) :=
  lv_ior F.1 F.2.1 hdg (by rw [bOr, zI_of] at k; exact k)
theorem z_ishl (F : CallFix p m c cc nL s args Ts own) {x y : Int} (hdg : decode cc pc = .ok (.ishl, 1)) (k : W p l e R s m args below meth c H locs cells slots Q (F0 m (pc + 1) ls (.int (zI (bShl x y)) :: rest))) : W p l e R s m args below meth c H locs cells slots Q (F0 m pc ls (.int (zI y) :: .int (zI x) :: rest)) :=
  lv_ishl F.1 F.2.1 hdg (by rw [bShl, zI_of] at k; exact k)
theorem z_ishr (F : CallFix p m c cc nL s args Ts own) {x y : Int} (hdg : decode cc pc = .ok (.ishr, 1)) (k : W p l e R s m args below meth c H locs cells slots Q (F0 m (pc + 1) ls (.int (zI (bShr x y)) :: rest))) : W p l e R s m args below meth c H locs cells slots Q (F0 m pc ls (.int (zI y) :: .int (zI x) :: rest)) :=
  lv_ishr F.1 F.2.1 hdg (by rw [bShr, zI_of] at k; exact k)
theorem z_iushr (F : CallFix p m c cc nL s args Ts own) {x y : Int} (hdg : decode cc pc = .ok (.iushr, 1)) (k : W p l e R s m args below meth c H locs cells slots Q (F0 m (pc + 1) ls (.int (zI (bUsr x y)) :: rest))) : W p l e R s m args below meth c H locs cells slots Q (F0 m pc ls (.int (zI y) :: .int (zI x) :: rest)) :=
  lv_iushr F.1 F.2.1 hdg rfl (by rw [bUsr, zI_of] at k; exact k)
theorem z_ldcw (F : CallFix p m c cc nL s args Ts own) {index : Nat} {v : Int32} (n : Int) (hv : v = zI n) (hc : Cond.constant own index v ∈ Ts) (hdg : decode cc pc = .ok (.ldc_w index, 3)) (k : W p l e R s m args below meth c H locs cells slots Q (F0 m (pc + 3) ls (.int (zI n) :: rest))) : W p l e R s m args below meth c H locs cells slots Q (F0 m pc ls rest) :=
  lv_ldcw F.1 F.2.1 F.2.2.2.1 (F.2.2.2.2 _ hc) hdg (by rw [hv]; exact k)
end ZB
def pw2 (s : Int) : Int := ((2 ^ s.toNat : Nat) : Int)
def bitZ (z s : Int) : Int := z / pw2 s % 2
def msk (P : Nat → Bool) : Nat → Int
  | 0 => 0
  | k + 1 => msk P k + (if P k = true then pw2 (k : Int) else 0)
def popZ (z : Int) : Int := bitZ z 0 + bitZ z 1 + bitZ z 2 + bitZ z 3 + bitZ z 4 + bitZ z 5 + bitZ z 6
def bc1 (x : Int) : Int := x - bAnd (bUsr x 1) 1431655765
def bc2 (x : Int) : Int := bAnd x 858993459 + bAnd (bUsr x 2) 858993459
def bc3 (x : Int) : Int := bAnd (x + bUsr x 4) 252645135
def bc4 (x : Int) : Int := x + bUsr x 8
def bc5 (x : Int) : Int := x + bUsr x 16
def bcZ (x : Int) : Int := bAnd (bc5 (bc4 (bc3 (bc2 (bc1 x))))) 63
theorem bcZ_N : ∀ n : Fin 128, bcZ ((n : Nat) : Int) = popZ ((n : Nat) : Int) := by decide +kernel
theorem bcZ_ok {z : Int} (h : 0 ≤ z ∧ z < 128) : bcZ z = popZ z := by
  have := bcZ_N ⟨z.toNat, by omega⟩
  simp only at this
  rw [show ((z.toNat : Nat) : Int) = z by omega] at this
  exact this
theorem bitA_N : ∀ n : Fin 128, ∀ s : Fin 7, bAnd (bShr ((n : Nat) : Int) ((s : Nat) : Int)) 1 = bitZ ((n : Nat) : Int) ((s : Nat) : Int) := by decide +kernel
theorem bitA_ok {z s : Int} (h : 0 ≤ z ∧ z < 128) (hs : 0 ≤ s ∧ s < 7) : bAnd (bShr z s) 1 = bitZ z s := by
  have := bitA_N ⟨z.toNat, by omega⟩ ⟨s.toNat, by omega⟩
  simp only at this
  rw [show ((z.toNat : Nat) : Int) = z by omega, show ((s.toNat : Nat) : Int) = s by omega] at this
  exact this
def orS (z s : Int) : Int := bOr z (bShl 1 s)
theorem orS_N : ∀ n : Fin 128, ∀ s : Fin 7, orS ((n : Nat) : Int) ((s : Nat) : Int) = ((n : Nat) : Int) + (1 - bitZ ((n : Nat) : Int) ((s : Nat) : Int)) * pw2 ((s : Nat) : Int) ∧ 0 ≤ orS ((n : Nat) : Int) ((s : Nat) : Int) ∧ orS ((n : Nat) : Int) ((s : Nat) : Int) < 128 := by decide +kernel
theorem orS_rng {z s : Int} (h : 0 ≤ z ∧ z < 128) (hs : 0 ≤ s ∧ s < 7) : 0 ≤ orS z s ∧ orS z s < 128 := by
  have := (orS_N ⟨z.toNat, by omega⟩ ⟨s.toNat, by omega⟩).2
  simp only at this
  rw [show ((z.toNat : Nat) : Int) = z by omega, show ((s.toNat : Nat) : Int) = s by omega] at this
  exact this
def fB (b0 b1 b2 b3 b4 b5 b6 : Bool) : Nat → Bool := fun t => match t with
  | 0 => b0 | 1 => b1 | 2 => b2 | 3 => b3 | 4 => b4 | 5 => b5 | _ => b6
theorem msk_congr {P Q : Nat → Bool} : ∀ {n : Nat}, (∀ i, i < n → P i = Q i) → msk P n = msk Q n
  | 0, _ => rfl
  | n + 1, h => by rw [msk, msk, msk_congr (fun i hi => h i (by omega)), h n (by omega)]
theorem fB_eq (P : Nat → Bool) : ∀ i, i < 7 → P i = fB (P 0) (P 1) (P 2) (P 3) (P 4) (P 5) (P 6) i := by
  intro i h
  rcases (show i = 0 ∨ i = 1 ∨ i = 2 ∨ i = 3 ∨ i = 4 ∨ i = 5 ∨ i = 6 by omega) with rfl | rfl | rfl | rfl | rfl | rfl | rfl <;> rfl
theorem msk_bitN : ∀ b0 b1 b2 b3 b4 b5 b6 : Bool, ∀ s : Fin 7, bitZ (msk (fB b0 b1 b2 b3 b4 b5 b6) 7) ((s : Nat) : Int) = bI (fB b0 b1 b2 b3 b4 b5 b6 s = true) := by unfold bI; decide +kernel
theorem msk_bit (P : Nat → Bool) {s : Nat} (hs : s < 7) : bitZ (msk P 7) (s : Int) = bI (P s = true) := by
  have h := msk_bitN (P 0) (P 1) (P 2) (P 3) (P 4) (P 5) (P 6) ⟨s, hs⟩
  rw [msk_congr (fB_eq P), fB_eq P s hs]
  exact h
theorem msk_orN : ∀ b0 b1 b2 b3 b4 b5 b6 : Bool, ∀ s : Fin 7, orS (msk (fB b0 b1 b2 b3 b4 b5 b6) 7) ((s : Nat) : Int) = msk (fun t => fB b0 b1 b2 b3 b4 b5 b6 t || decide (t = s)) 7 := by decide +kernel
theorem msk_or (P : Nat → Bool) {s : Nat} (hs : s < 7) : orS (msk P 7) (s : Int) = msk (fun t => P t || decide (t = s)) 7 := by
  have h := msk_orN (P 0) (P 1) (P 2) (P 3) (P 4) (P 5) (P 6) ⟨s, hs⟩
  rw [msk_congr (fB_eq P)]
  refine h.trans (msk_congr fun i hi => ?_)
  rw [fB_eq P i hi]
theorem msk_popN : ∀ b0 b1 b2 b3 b4 b5 b6 : Bool, popZ (msk (fB b0 b1 b2 b3 b4 b5 b6) 7) = cntB (fB b0 b1 b2 b3 b4 b5 b6) 7 := by decide +kernel
theorem msk_pop (P : Nat → Bool) : popZ (msk P 7) = cntB P 7 := by
  have h := msk_popN (P 0) (P 1) (P 2) (P 3) (P 4) (P 5) (P 6)
  rw [msk_congr (fB_eq P), cntB_congr (fB_eq P)]
  exact h
theorem msk_rngN : ∀ b0 b1 b2 b3 b4 b5 b6 : Bool, 0 ≤ msk (fB b0 b1 b2 b3 b4 b5 b6) 7 ∧ msk (fB b0 b1 b2 b3 b4 b5 b6) 7 < 128 := by decide +kernel
theorem msk_rng (P : Nat → Bool) : 0 ≤ msk P 7 ∧ msk P 7 < 128 := by
  have h := msk_rngN (P 0) (P 1) (P 2) (P 3) (P 4) (P 5) (P 6)
  rw [msk_congr (fB_eq P)]
  exact h
theorem msk_none : msk (fun _ => false) 7 = 0 := by decide +kernel
theorem shl_one : ∀ s : Fin 7, bShl 1 ((s : Nat) : Int) = msk (fun t => decide (t = s)) 7 := by decide +kernel
theorem popZ_rng {z : Int} : 0 ≤ popZ z ∧ popZ z ≤ 7 := by
  unfold popZ bitZ
  omega
