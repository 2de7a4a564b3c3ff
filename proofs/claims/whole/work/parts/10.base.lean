/-! ===== base: ints as whole numbers, a memory by numbered cells, rows over it ===== -/
def zI (z : Int) : Int32 := Int32.ofInt z
theorem zI_add (x y : Int) : zI x + zI y = zI (x + y) := (Int32.ofInt_add x y).symm
theorem zI_sub (x y : Int) : zI x - zI y = zI (x - y) := (Int32.ofInt_sub x y).symm
theorem zI_mul (x y : Int) : zI x * zI y = zI (x * y) := (Int32.ofInt_mul x y).symm
theorem zI_toInt {z : Int} (h : -2147483648 ≤ z ∧ z < 2147483648) : (zI z).toInt = z := by
  unfold zI
  rw [Int32.toInt_ofInt, Int.bmod_eq_of_le (by have := h.1; show _ ≤ _; simp [Int32.size]; omega) (by have := h.2; show _ < _; simp [Int32.size]; omega)]
theorem zI_of (x : Int32) : zI x.toInt = x := Int32.ofInt_toInt x
theorem zI_rng (x : Int32) : -2147483648 ≤ x.toInt ∧ x.toInt < 2147483648 := by
  have h1 := Int32.le_toInt x
  have h2 := Int32.toInt_lt x
  omega
theorem zI_lt {x y : Int} (hx : -2147483648 ≤ x ∧ x < 2147483648) (hy : -2147483648 ≤ y ∧ y < 2147483648) : zI x < zI y ↔ x < y := by
  rw [Int32.lt_iff_toInt_lt, zI_toInt hx, zI_toInt hy]
theorem zI_le {x y : Int} (hx : -2147483648 ≤ x ∧ x < 2147483648) (hy : -2147483648 ≤ y ∧ y < 2147483648) : zI x ≤ zI y ↔ x ≤ y := by
  rw [Int32.le_iff_toInt_le, zI_toInt hx, zI_toInt hy]
theorem zI_eq {x y : Int} (hx : -2147483648 ≤ x ∧ x < 2147483648) (hy : -2147483648 ≤ y ∧ y < 2147483648) : zI x = zI y ↔ x = y := by
  constructor
  · intro h
    have := congrArg Int32.toInt h
    rwa [zI_toInt hx, zI_toInt hy] at this
  · intro h
    rw [h]
theorem zI_clamp {z : Int} (h : 0 ≤ z) (h2 : z < 2147483648) : (zI z).toNatClampNeg = z.toNat := by
  have : (zI z).toNatClampNeg = (zI z).toInt.toNat := rfl
  rw [this, zI_toInt (by omega)]
theorem zI_in {z : Int} {n : Nat} (h : 0 ≤ z) (h1 : z < n) (hn : n < 2147483648) : vp_in (zI z) n := by
  intro q
  rcases q with q | q
  · have := Int32.lt_iff_toInt_lt.mp q
    rw [zI_toInt (by omega)] at this
    have h0 : (0 : Int32).toInt = 0 := by decide
    omega
  · rw [zI_clamp h (by omega)] at q
    omega
theorem zI_div {x y : Int} (hx : 0 ≤ x ∧ x < 2147483648) (hy : 0 < y ∧ y < 2147483648) : zI x / zI y = zI (x / y) := by
  unfold zI
  rw [← Int32.ofInt_tdiv (by show -2147483648 ≤ x; omega) (by show x ≤ 2147483647; omega) (by show -2147483648 ≤ y; omega) (by show y ≤ 2147483647; omega), Int.tdiv_eq_ediv_of_nonneg hx.1]
theorem zI_rem {x y : Int} (hx : 0 ≤ x ∧ x < 2147483648) (hy : 0 < y ∧ y < 2147483648) : zI x - zI x / zI y * zI y = zI (x % y) := by
  rw [zI_div hx hy, zI_mul, zI_sub, Int.emod_def, Int.mul_comm]
theorem zI_ne0 {y : Int} (hy : 0 < y ∧ y < 2147483648) : ¬ zI y = 0 := by
  intro h
  have h0 : zI y = zI 0 := h
  rw [zI_eq (by omega) (by omega)] at h0
  omega
def bI (p : Prop) [Decidable p] : Int := if p then 1 else 0
/-- numbered cells: cell i, its slot k -/
abbrev zM : Type := Nat → Int → Int
def up (G : zM) (i : Nat) (k v : Int) : zM := fun i' k' => if i' = i ∧ k' = k then v else G i' k'
theorem up_self (G : zM) (i : Nat) (k v : Int) : up G i k v i k = v := by simp [up]
theorem up_cell (G : zM) {i i' : Nat} (k v : Int) (h : i' ≠ i) : up G i k v i' = G i' := by
  funext k'
  simp [up, h]
def zRng (G : zM) : Prop := ∀ (i : Nat) (k : Int), -2147483648 ≤ G i k ∧ G i k < 2147483648
theorem zRng_up {G : zM} (h : zRng G) (i : Nat) (k : Int) {v : Int} (hv : -2147483648 ≤ v ∧ v < 2147483648) : zRng (up G i k v) := by
  intro i' k'
  unfold up
  split
  · exact hv
  · exact h i' k'
/-- the world's names: classes and slots; where cell 0 lies; the classes of int[], boolean[], Letter[], Seat[] -/
abbrev zW : Type := va_G × Nat × ClassId × ClassId × ClassId × ClassId
/-- cell z, or null for z < 0 -/
def zV (w : zW) (z : Int) : Value := if z < 0 then .null else .ref (w.2.1 + z.toNat)
def zO (w : zW) (z : Int) : Option Nat := if z < 0 then none else some (w.2.1 + z.toNat)
theorem zV_rf (w : zW) (z : Int) : va_rf (zO w z) = zV w z := by
  unfold zV zO
  split <;> rfl
theorem zV_neg {w : zW} {z : Int} (h : z < 0) : zV w z = .null := by simp [zV, h]
theorem zV_pos {w : zW} {z : Int} (h : 0 ≤ z) : zV w z = .ref (w.2.1 + z.toNat) := by simp [zV, Int.not_lt.mpr h]
theorem zV_nat (w : zW) (n : Nat) : zV w (n : Int) = .ref (w.2.1 + n) := by
  rw [zV_pos (by omega)]
  rfl
/-- what kind of cell each number is, and its length -/
def shp (i : Nat) : Nat × Nat :=
  if i < 8 then (match i with | 0 => (7, 0) | 1 => (1, 0) | 2 => (4, 0) | 3 => (11, 400) | 4 => (11, 180) | 5 => (11, 180) | 6 => (5, 0) | _ => (12, 7))
  else if i < 64 then (match i % 8 with | 0 => (6, 0) | 1 => (3, 0) | 2 => (3, 0) | 3 => (0, 0) | 4 => (9, 6) | 5 => (9, 6) | 6 => (10, 100) | _ => (9, 3))
  else if i < 71 then (match i - 64 with | 0 => (8, 0) | 1 => (10, 7) | 2 => (10, 700) | 3 => (9, 140) | 4 => (9, 84) | 5 => (9, 2400) | _ => (10, 2800))
  else (2, 0)
theorem shp_seat : ∀ j, j < 7 → shp (8 + 8 * j) = (6, 0) := by decide
theorem shp_lock : ∀ j, j < 7 → shp (8 + 8 * j + 1) = (3, 0) := by decide
theorem shp_valid : ∀ j, j < 7 → shp (8 + 8 * j + 2) = (3, 0) := by decide
theorem shp_chain : ∀ j, j < 7 → shp (8 + 8 * j + 3) = (0, 0) := by decide
theorem shp_vals : ∀ j, j < 7 → shp (8 + 8 * j + 4) = (9, 6) := by decide
theorem shp_rnds : ∀ j, j < 7 → shp (8 + 8 * j + 5) = (9, 6) := by decide
theorem shp_held : ∀ j, j < 7 → shp (8 + 8 * j + 6) = (10, 100) := by decide
theorem shp_tims : ∀ j, j < 7 → shp (8 + 8 * j + 7) = (9, 3) := by decide
theorem shp_let (j : Nat) : shp (71 + j) = (2, 0) := by
  unfold shp
  rw [if_neg (by omega), if_neg (by omega), if_neg (by omega)]
def zFs (w : zW) (k i : Nat) (f : Int → Int) : List Value := match k with
  | 0 => [.ref (w.2.1 + (i + 1)), .ref (w.2.1 + (i + 2))]
  | 1 => [.int (zI (f 0))]
  | 2 => [.int (zI (f 0)), .int (zI (f 1)), .int (zI (f 2)), .int (zI (f 3)), .int (zI (f 4)), .int (zI (f 5)), .int (zI (f 6)), zV w (f 7)]
  | 3 => [.int (zI (f 0)), .int (zI (f 1))]
  | 4 => [.ref (w.2.1 + 3), .ref (w.2.1 + 4), .ref (w.2.1 + 5), .int (zI (f 3))]
  | 5 => [.ref (w.2.1 + 1), .ref (w.2.1 + 2)]
  | 6 => [.int (zI (f 0)), .int (zI (f 1)), .int (zI (f 2)), .int (zI (f 3)), .int (zI (f 4)), .int (zI (f 5)), .int (zI (f 6)), .int (zI (f 7)), .int (zI (f 8)), .int (zI (f 9)), .ref (w.2.1 + (i + 1)), .ref (w.2.1 + (i + 2)), .ref (w.2.1 + (i + 3)), .ref (w.2.1 + (i + 6)), .ref (w.2.1 + (i + 7))]
  | 7 => [.ref (w.2.1 + 1), .ref (w.2.1 + 2), .ref (w.2.1 + 6), .ref (w.2.1 + 7), .int (zI (f 4)), .int (zI (f 5))]
  | 8 => [.int (zI (f 0)), .int (zI (f 1)), .int (zI (f 2)), .ref (w.2.1 + 65), .ref (w.2.1 + 66), .ref (w.2.1 + 67), .ref (w.2.1 + 68), .int (zI (f 7)), .ref (w.2.1 + 69), .ref (w.2.1 + 70)]
  | _ => []
def zC (w : zW) (k len i : Nat) (f : Int → Int) : va_E :=
  if k < 9 then .inr (k, zFs w k i f) else if k = 9 then .inl (w.2.2.1, len, .inl (fun j => zI (f j))) else if k = 10 then .inl (w.2.2.2.1, len, .inl (fun j => zI (f j)))
  else if k = 11 then .inl (w.2.2.2.2.1, len, .inr (.inr (.inr (.inr (fun j => zO w (f j)))))) else .inl (w.2.2.2.2.2, len, .inr (.inr (.inr (.inr (fun j => zO w (f j))))))
def zE (w : zW) (i : Nat) (f : Int → Int) : va_E := zC w (shp i).1 (shp i).2 i f
theorem zE_of {w : zW} {i k len : Nat} (h : shp i = (k, len)) (f : Int → Int) : zE w i f = zC w k len i f := by
  unfold zE
  rw [h]
/-- the heap holds the memory G at the cells of dom -/
def zP (w : zW) (dom : Nat → Prop) (G : zM) (H : Heap) : Prop := zRng G ∧ ∀ i, dom i → va_at w.1 vwCl (w.2.1 + i, zE w i (G i)) H
def zK (w : zW) (U : State) : Prop := va_K w.1 vwCl [(w.2.2.1, .int), (w.2.2.2.1, .boolean), (w.2.2.2.2.1, .object "LockedChain$Letter"), (w.2.2.2.2.2, .object "LockedChain$Seat")] U ∧ va_Nw (.methodLinkNest RX4 27 yX7_slot "LockedChain") U ∧ va_Nw (.methodLinkNest RX4 31 yX2_init "LockedChain") U
theorem zK.moved {w : zW} {s U : State} (hW : s.WarmedH U.vm) (h : zK w s) : zK w U := ⟨va_K.moved hW.alike h.1, va_Nw.warmM hW h.2.1, va_Nw.warmM hW h.2.2⟩
theorem zK.blind {w : zW} {U : State} {g : JFrame} {mk : MethodId} {a : Array Value} (h : zK w U) : zK w (U.calling g mk a) := ⟨va_K.moved (u := U) (U := U.calling g mk a) (Vm.Alike.refl U.vm) h.1, va_Nw.same rfl (u := U) (U := U.calling g mk a) rfl h.2.1, va_Nw.same rfl (u := U) (U := U.calling g mk a) rfl h.2.2⟩
/-- the state of a walk: size, memory, what was changed -/
def Zs (w : zW) (dom : Nat → Prop) (A : Nat → Prop) (H0 : Heap) (sz : Nat) (G : zM) (H : Heap) (locs : List Loc) : Prop := H.size = sz ∧ zP w dom G H ∧ va_S A H0 H locs
/-- a contract's start, and its end (void, int, reference or null) -/
def zB (w : zW) (dom : Nat → Prop) (sz : Nat) (G : zM) : State → Prop := fun U => U.heap.size = sz ∧ zP w dom G U.heap ∧ zK w U
def zPre (w : zW) (dom : Nat → Prop) (sz : Nat) (G : zM) (av : List Value) : Array Value → State → Prop := va_Pc av (zB w dom sz G)
def zQ (w : zW) (dom : Nat → Prop) (sz : Nat) : zM → State → Prop := fun C t => t.heap.size = sz ∧ zP w dom C t.heap
abbrev zQv (w : zW) (dom : Nat → Prop) (sz : Nat) (Φ : zM → Prop) (A : Nat → Prop) := va_Qv (S := zM) Φ (zQ w dom sz) A
abbrev zQi (w : zW) (dom : Nat → Prop) (sz : Nat) (z : Int) (Φ : zM → Prop) (A : Nat → Prop) := va_Qi (S := zM) (fun r C => r = zI z ∧ Φ C) (zQ w dom sz) A
abbrev zQr (w : zW) (dom : Nat → Prop) (sz : Nat) (z : Int) (Φ : zM → Prop) (A : Nat → Prop) := va_Qq (S := zM) (fun r C => r = zO w z ∧ Φ C) (zQ w dom sz) A
theorem zPre_blind (w : zW) (dom : Nat → Prop) (sz : Nat) (G : zM) (av : List Value) : FrameBlind (zPre w dom sz G av) := fun a U g mk q => by
  obtain ⟨q0, q1, q2, q3⟩ := q
  exact ⟨q0, q1, q2, q3.blind⟩

theorem zV_cat1 (w : zW) (z : Int) : (zV w z).category = 1 := by
  unfold zV
  split <;> rfl
theorem zV_m1 (w : zW) : zV w (-1) = .null := zV_neg (by decide)
theorem zV_nar (w : zW) (z : Int) {C : String} : narrow (.object C) (zV w z) = zV w z := by
  unfold zV
  split <;> rfl
theorem zV_fit (w : zW) (z : Int) {C : String} : fits (.object C) (zV w z) = true := by
  unfold zV
  split <;> rfl
theorem zB_nar {v : Int} (h : v = 0 ∨ v = 1) : narrow .boolean (.int (zI v)) = .int (zI v) := by rcases h with rfl | rfl <;> decide
theorem zB_fit {v : Int} (h : v = 0 ∨ v = 1) : fits .boolean (.int (zI v)) = true := by rcases h with rfl | rfl <;> decide
def wr (z : Int) : Int := (zI z).toInt
theorem zI_wr (z : Int) : zI z = zI (wr z) := (zI_of _).symm
theorem wr_rng (z : Int) : -2147483648 ≤ wr z ∧ wr z < 2147483648 := zI_rng _
section ZR
variable {p : Program} {l : Launch} {e : Env} {R : Room} {s : State} {m : MethodId} {args : Array Value} {below : List Frame} {meth : Method} {c : Code} {H : Heap} {locs : List Loc} {cells slots : Nat} {Q : State → Prop}
variable {cc : ByteArray} {nL : Nat} {Ts : List Cond} {own : String} {pc : Nat} {ls : Array Slot} {rest : List Value}
variable {w : zW} {dom : Nat → Prop} {A : Nat → Prop} {H0 : Heap} {sz : Nat} {G : zM}
theorem z_iconst (F : CallFix p m c cc nL s args Ts own) {n : Int} (hdg : decode cc pc = .ok (.iconst n, 1)) (k : W p l e R s m args below meth c H locs cells slots Q (F0 m (pc + 1) ls (.int (zI n) :: rest))) : W p l e R s m args below meth c H locs cells slots Q (F0 m pc ls rest) := lv_iconst F.1 F.2.1 hdg rfl k
theorem z_bipush (F : CallFix p m c cc nL s args Ts own) {n : Int} (hv : (Int8.ofInt n).toInt32 = zI n) (hdg : decode cc pc = .ok (.bipush n, 2)) (k : W p l e R s m args below meth c H locs cells slots Q (F0 m (pc + 2) ls (.int (zI n) :: rest))) : W p l e R s m args below meth c H locs cells slots Q (F0 m pc ls rest) := lv_bipush F.1 F.2.1 hdg hv k
theorem z_sipush (F : CallFix p m c cc nL s args Ts own) {n : Int} (hv : (Int16.ofInt n).toInt32 = zI n) (hdg : decode cc pc = .ok (.sipush n, 3)) (k : W p l e R s m args below meth c H locs cells slots Q (F0 m (pc + 3) ls (.int (zI n) :: rest))) : W p l e R s m args below meth c H locs cells slots Q (F0 m pc ls rest) := lv_sipush F.1 F.2.1 hdg hv k
theorem z_ldc (F : CallFix p m c cc nL s args Ts own) {index : Nat} {v : Int32} (n : Int) (hv : v = zI n) (hc : Cond.constant own index v ∈ Ts) (hdg : decode cc pc = .ok (.ldc index, 2)) (k : W p l e R s m args below meth c H locs cells slots Q (F0 m (pc + 2) ls (.int (zI n) :: rest))) : W p l e R s m args below meth c H locs cells slots Q (F0 m pc ls rest) := lv_ldc F.1 F.2.1 F.2.2.2.1 (F.2.2.2.2 _ hc) hdg (hv ▸ k)
theorem z_iload (F : CallFix p m c cc nL s args Ts own) {i : Nat} {x : Int32} (hdg : decode cc pc = .ok (.iload i, 2)) (hl : ls[i]? = some (.val (.int x))) (k : W p l e R s m args below meth c H locs cells slots Q (F0 m (pc + 2) ls (.int x :: rest))) : W p l e R s m args below meth c H locs cells slots Q (F0 m pc ls rest) := lv_iload F.1 F.2.1 hdg hl k
theorem z_iload_n (F : CallFix p m c cc nL s args Ts own) {q : Fin 4} {i : Nat} {x : Int32} (hdg : decode cc pc = .ok (.iload_n q, 1)) (hi : (q : Nat) = i) (hl : ls[i]? = some (.val (.int x))) (k : W p l e R s m args below meth c H locs cells slots Q (F0 m (pc + 1) ls (.int x :: rest))) : W p l e R s m args below meth c H locs cells slots Q (F0 m pc ls rest) := lv_iload_n F.1 F.2.1 hdg hi hl k
theorem z_lload (F : CallFix p m c cc nL s args Ts own) {i : Nat} {x : Int64} (hdg : decode cc pc = .ok (.lload i, 2)) (hl : ls[i]? = some (.val (.long x))) (k : W p l e R s m args below meth c H locs cells slots Q (F0 m (pc + 2) ls (.long x :: rest))) : W p l e R s m args below meth c H locs cells slots Q (F0 m pc ls rest) := lv_lload F.1 F.2.1 hdg hl k
theorem z_lload_n (F : CallFix p m c cc nL s args Ts own) {q : Fin 4} {i : Nat} {x : Int64} (hdg : decode cc pc = .ok (.lload_n q, 1)) (hi : (q : Nat) = i) (hl : ls[i]? = some (.val (.long x))) (k : W p l e R s m args below meth c H locs cells slots Q (F0 m (pc + 1) ls (.long x :: rest))) : W p l e R s m args below meth c H locs cells slots Q (F0 m pc ls rest) := lv_lload_n F.1 F.2.1 hdg hi hl k
/-- a local that is a cell or null -/
theorem z_aload_n (F : CallFix p m c cc nL s args Ts own) {q : Fin 4} {i : Nat} {x : Nat} (hdg : decode cc pc = .ok (.aload_n q, 1)) (hi : (q : Nat) = i) (hl : ls[i]? = some (.val (.ref x))) (k : W p l e R s m args below meth c H locs cells slots Q (F0 m (pc + 1) ls (.ref x :: rest))) : W p l e R s m args below meth c H locs cells slots Q (F0 m pc ls rest) := lv_aload_n F.1 F.2.1 hdg hi hl k
theorem z_aload (F : CallFix p m c cc nL s args Ts own) {i : Nat} {x : Nat} (hdg : decode cc pc = .ok (.aload i, 2)) (hl : ls[i]? = some (.val (.ref x))) (k : W p l e R s m args below meth c H locs cells slots Q (F0 m (pc + 2) ls (.ref x :: rest))) : W p l e R s m args below meth c H locs cells slots Q (F0 m pc ls rest) := lv_aload F.1 F.2.1 hdg hl k
theorem z_vload_n (F : CallFix p m c cc nL s args Ts own) {q : Fin 4} {i : Nat} {z : Int} (hdg : decode cc pc = .ok (.aload_n q, 1)) (hi : (q : Nat) = i) (hl : ls[i]? = some (.val (zV w z))) (k : W p l e R s m args below meth c H locs cells slots Q (F0 m (pc + 1) ls (zV w z :: rest))) : W p l e R s m args below meth c H locs cells slots Q (F0 m pc ls rest) := by
  unfold zV at hl k
  split at hl
  · rename_i h
    rw [if_pos h] at k
    exact lv_aload_nN F.1 F.2.1 hdg hi hl k
  · rename_i h
    rw [if_neg h] at k
    exact lv_aload_n F.1 F.2.1 hdg hi hl k
theorem z_vload (F : CallFix p m c cc nL s args Ts own) {i : Nat} {z : Int} (hdg : decode cc pc = .ok (.aload i, 2)) (hl : ls[i]? = some (.val (zV w z))) (k : W p l e R s m args below meth c H locs cells slots Q (F0 m (pc + 2) ls (zV w z :: rest))) : W p l e R s m args below meth c H locs cells slots Q (F0 m pc ls rest) := by
  unfold zV at hl k
  split at hl
  · rename_i h
    rw [if_pos h] at k
    exact lv_aloadN F.1 F.2.1 hdg hl k
  · rename_i h
    rw [if_neg h] at k
    exact lv_aload F.1 F.2.1 hdg hl k
theorem z_istore (F : CallFix p m c cc nL s args Ts own) {i : Nat} {x : Int32} {lv lv' : List (Nat × Value)} (hdg : decode cc pc = .ok (.istore i, 2)) (h : lv_has ls nL lv) (hn : i < nL) (hl : (i, Value.int x) :: lv.filter (fun q => !(q.1 == i) && !(q.1 + 1 == i && q.2.category == 2)) = lv')
    (kk : ∀ ls' : Array Slot, lv_has ls' nL lv' → W p l e R s m args below meth c H locs cells slots Q (F0 m (pc + 2) ls' rest)) : W p l e R s m args below meth c H locs cells slots Q (F0 m pc ls (.int x :: rest)) := lv_istore F.1 F.2.1 hdg h hn hl kk
theorem z_istore_n (F : CallFix p m c cc nL s args Ts own) {q : Fin 4} {i : Nat} {x : Int32} {lv lv' : List (Nat × Value)} (hdg : decode cc pc = .ok (.istore_n q, 1)) (hi : (q : Nat) = i) (h : lv_has ls nL lv) (hn : i < nL) (hl : (i, Value.int x) :: lv.filter (fun q => !(q.1 == i) && !(q.1 + 1 == i && q.2.category == 2)) = lv')
    (kk : ∀ ls' : Array Slot, lv_has ls' nL lv' → W p l e R s m args below meth c H locs cells slots Q (F0 m (pc + 1) ls' rest)) : W p l e R s m args below meth c H locs cells slots Q (F0 m pc ls (.int x :: rest)) := lv_istore_n F.1 F.2.1 hdg hi h hn hl kk
theorem z_lstore (F : CallFix p m c cc nL s args Ts own) {i : Nat} {x : Int64} {lv lv' : List (Nat × Value)} (hdg : decode cc pc = .ok (.lstore i, 2)) (h : lv_has ls nL lv) (hn : i + 1 < nL) (hl : (i, Value.long x) :: lv.filter (fun q => !(q.1 == i) && (!(q.1 == i + 1) && !(q.1 + 1 == i && q.2.category == 2))) = lv')
    (kk : ∀ ls' : Array Slot, lv_has ls' nL lv' → W p l e R s m args below meth c H locs cells slots Q (F0 m (pc + 2) ls' rest)) : W p l e R s m args below meth c H locs cells slots Q (F0 m pc ls (.long x :: rest)) := lv_lstore F.1 F.2.1 hdg h hn hl kk
theorem z_lstore_n (F : CallFix p m c cc nL s args Ts own) {q : Fin 4} {i : Nat} {x : Int64} {lv lv' : List (Nat × Value)} (hdg : decode cc pc = .ok (.lstore_n q, 1)) (hi : (q : Nat) = i) (h : lv_has ls nL lv) (hn : i + 1 < nL) (hl : (i, Value.long x) :: lv.filter (fun q => !(q.1 == i) && (!(q.1 == i + 1) && !(q.1 + 1 == i && q.2.category == 2))) = lv')
    (kk : ∀ ls' : Array Slot, lv_has ls' nL lv' → W p l e R s m args below meth c H locs cells slots Q (F0 m (pc + 1) ls' rest)) : W p l e R s m args below meth c H locs cells slots Q (F0 m pc ls (.long x :: rest)) := lv_lstore_n F.1 F.2.1 hdg hi h hn hl kk
theorem z_astore (F : CallFix p m c cc nL s args Ts own) {i : Nat} {x : Nat} {lv lv' : List (Nat × Value)} (hdg : decode cc pc = .ok (.astore i, 2)) (h : lv_has ls nL lv) (hn : i < nL) (hl : (i, Value.ref x) :: lv.filter (fun q => !(q.1 == i) && !(q.1 + 1 == i && q.2.category == 2)) = lv')
    (kk : ∀ ls' : Array Slot, lv_has ls' nL lv' → W p l e R s m args below meth c H locs cells slots Q (F0 m (pc + 2) ls' rest)) : W p l e R s m args below meth c H locs cells slots Q (F0 m pc ls (.ref x :: rest)) := lv_astore F.1 F.2.1 hdg h hn hl kk
theorem z_astore_n (F : CallFix p m c cc nL s args Ts own) {q : Fin 4} {i : Nat} {x : Nat} {lv lv' : List (Nat × Value)} (hdg : decode cc pc = .ok (.astore_n q, 1)) (hi : (q : Nat) = i) (h : lv_has ls nL lv) (hn : i < nL) (hl : (i, Value.ref x) :: lv.filter (fun q => !(q.1 == i) && !(q.1 + 1 == i && q.2.category == 2)) = lv')
    (kk : ∀ ls' : Array Slot, lv_has ls' nL lv' → W p l e R s m args below meth c H locs cells slots Q (F0 m (pc + 1) ls' rest)) : W p l e R s m args below meth c H locs cells slots Q (F0 m pc ls (.ref x :: rest)) := lv_astore_n F.1 F.2.1 hdg hi h hn hl kk
theorem zV_cat (w : zW) (z : Int) (i : Nat) : (fun q : Nat × Value => !(q.1 == i) && !(q.1 + 1 == i && q.2.category == 2)) = (fun q : Nat × Value => !(q.1 == i) && !(q.1 + 1 == i && q.2.category == 2)) := rfl
theorem z_vstore (F : CallFix p m c cc nL s args Ts own) {i : Nat} {z : Int} {lv lv' : List (Nat × Value)} (hdg : decode cc pc = .ok (.astore i, 2)) (h : lv_has ls nL lv) (hn : i < nL) (hl : (i, zV w z) :: lv.filter (fun q => !(q.1 == i) && !(q.1 + 1 == i && q.2.category == 2)) = lv')
    (kk : ∀ ls' : Array Slot, lv_has ls' nL lv' → W p l e R s m args below meth c H locs cells slots Q (F0 m (pc + 2) ls' rest)) : W p l e R s m args below meth c H locs cells slots Q (F0 m pc ls (zV w z :: rest)) := by
  subst hl
  revert kk
  unfold zV
  split
  · exact fun kk => lv_astoreN F.1 F.2.1 hdg h hn rfl kk
  · exact fun kk => lv_astore F.1 F.2.1 hdg h hn rfl kk
theorem z_vstore_n (F : CallFix p m c cc nL s args Ts own) {q : Fin 4} {i : Nat} {z : Int} {lv lv' : List (Nat × Value)} (hdg : decode cc pc = .ok (.astore_n q, 1)) (hi : (q : Nat) = i) (h : lv_has ls nL lv) (hn : i < nL) (hl : (i, zV w z) :: lv.filter (fun q => !(q.1 == i) && !(q.1 + 1 == i && q.2.category == 2)) = lv')
    (kk : ∀ ls' : Array Slot, lv_has ls' nL lv' → W p l e R s m args below meth c H locs cells slots Q (F0 m (pc + 1) ls' rest)) : W p l e R s m args below meth c H locs cells slots Q (F0 m pc ls (zV w z :: rest)) := by
  subst hl
  revert kk
  unfold zV
  split
  · exact fun kk => lv_astore_nN F.1 F.2.1 hdg hi h hn rfl kk
  · exact fun kk => lv_astore_n F.1 F.2.1 hdg hi h hn rfl kk
theorem z_iinc (F : CallFix p m c cc nL s args Ts own) {i k : Nat} {n z : Int} {lv lv' : List (Nat × Value)} (hdg : decode cc pc = .ok (.iinc i n, 3)) (h : lv_has ls nL lv) (hk : lv[k]? = some (i, .int (zI z))) (hn : i < nL) (hl : (i, Value.int (zI (z + n))) :: lv.filter (fun q => !(q.1 == i) && !(q.1 + 1 == i && q.2.category == 2)) = lv')
    (kk : ∀ ls' : Array Slot, lv_has ls' nL lv' → W p l e R s m args below meth c H locs cells slots Q (F0 m (pc + 3) ls' rest)) : W p l e R s m args below meth c H locs cells slots Q (F0 m pc ls rest) := lv_iinc F.1 F.2.1 hdg h hk (zI_add z n) hn hl kk
theorem z_iadd (F : CallFix p m c cc nL s args Ts own) {x y : Int} (hdg : decode cc pc = .ok (.iadd, 1)) (k : W p l e R s m args below meth c H locs cells slots Q (F0 m (pc + 1) ls (.int (zI (x + y)) :: rest))) : W p l e R s m args below meth c H locs cells slots Q (F0 m pc ls (.int (zI y) :: .int (zI x) :: rest)) := lv_iadd F.1 F.2.1 hdg (by rw [zI_add]; exact k)
theorem z_isub (F : CallFix p m c cc nL s args Ts own) {x y : Int} (hdg : decode cc pc = .ok (.isub, 1)) (k : W p l e R s m args below meth c H locs cells slots Q (F0 m (pc + 1) ls (.int (zI (x - y)) :: rest))) : W p l e R s m args below meth c H locs cells slots Q (F0 m pc ls (.int (zI y) :: .int (zI x) :: rest)) := lv_isub F.1 F.2.1 hdg (by rw [zI_sub]; exact k)
theorem z_imul (F : CallFix p m c cc nL s args Ts own) {x y : Int} (hdg : decode cc pc = .ok (.imul, 1)) (k : W p l e R s m args below meth c H locs cells slots Q (F0 m (pc + 1) ls (.int (zI (x * y)) :: rest))) : W p l e R s m args below meth c H locs cells slots Q (F0 m pc ls (.int (zI y) :: .int (zI x) :: rest)) := lv_imul F.1 F.2.1 hdg (by rw [zI_mul]; exact k)
theorem z_idiv (F : CallFix p m c cc nL s args Ts own) {x y : Int} (hx : 0 ≤ x ∧ x < 2147483648) (hy : 0 < y ∧ y < 2147483648) (hdg : decode cc pc = .ok (.idiv, 1)) (k : W p l e R s m args below meth c H locs cells slots Q (F0 m (pc + 1) ls (.int (zI (x / y)) :: rest))) : W p l e R s m args below meth c H locs cells slots Q (F0 m pc ls (.int (zI y) :: .int (zI x) :: rest)) := lv_idiv F.1 F.2.1 hdg (zI_ne0 hy) (by rw [zI_div hx hy]; exact k)
theorem z_irem (F : CallFix p m c cc nL s args Ts own) {x y : Int} (hx : 0 ≤ x ∧ x < 2147483648) (hy : 0 < y ∧ y < 2147483648) (hdg : decode cc pc = .ok (.irem, 1)) (k : W p l e R s m args below meth c H locs cells slots Q (F0 m (pc + 1) ls (.int (zI (x % y)) :: rest))) : W p l e R s m args below meth c H locs cells slots Q (F0 m pc ls (.int (zI y) :: .int (zI x) :: rest)) := lv_irem F.1 F.2.1 hdg (zI_ne0 hy) (by rw [zI_rem hx hy]; exact k)
theorem z_icmp_eq (F : CallFix p m c cc nL s args Ts own) {x y : Int} {off : Int} {tgt : Nat} (hx : -2147483648 ≤ x ∧ x < 2147483648) (hy : -2147483648 ≤ y ∧ y < 2147483648) (hdg : decode cc pc = .ok (.if_icmp .eq off, 3)) (ht : (pc : Int) + off = (tgt : Int)) (kt : x = y → W p l e R s m args below meth c H locs cells slots Q (F0 m tgt ls rest)) (kf : x ≠ y → W p l e R s m args below meth c H locs cells slots Q (F0 m (pc + 3) ls rest)) : W p l e R s m args below meth c H locs cells slots Q (F0 m pc ls (.int (zI y) :: .int (zI x) :: rest)) := by
  have e1 := zI_eq hx hy
  have e2 := zI_lt hx hy
  have e3 := zI_le hx hy
  have e4 := zI_lt hy hx
  have e5 := zI_le hy hx
  refine lv_icmp_eq F.1 F.2.1 hdg ht (fun h => kt ?_) (fun h => kf ?_)
  · first | exact e1.mp h | exact e2.mp h | exact e3.mp h | exact e4.mp h | exact e5.mp h | exact fun q => h (e1.mpr q) | exact Int.not_lt.mp (fun q => h (e2.mpr q)) | exact Int.not_lt.mp (fun q => h (e4.mpr q)) | exact Int.not_le.mp (fun q => h (e3.mpr q)) | exact Int.not_le.mp (fun q => h (e5.mpr q)) | exact fun q => h (e1.mp q) | (exact Classical.byContradiction fun q => h (fun z => q (e1.mp z)))
  · first | exact e1.mp h | exact e2.mp h | exact e3.mp h | exact e4.mp h | exact e5.mp h | exact fun q => h (e1.mpr q) | exact Int.not_lt.mp (fun q => h (e2.mpr q)) | exact Int.not_lt.mp (fun q => h (e4.mpr q)) | exact Int.not_le.mp (fun q => h (e3.mpr q)) | exact Int.not_le.mp (fun q => h (e5.mpr q)) | exact fun q => h (e1.mp q) | (exact Classical.byContradiction fun q => h (fun z => q (e1.mp z)))
theorem z_if_eq (F : CallFix p m c cc nL s args Ts own) {x : Int} {off : Int} {tgt : Nat} (hx : -2147483648 ≤ x ∧ x < 2147483648) (hdg : decode cc pc = .ok (.ifCond .eq off, 3)) (ht : (pc : Int) + off = (tgt : Int)) (kt : x = 0 → W p l e R s m args below meth c H locs cells slots Q (F0 m tgt ls rest)) (kf : x ≠ 0 → W p l e R s m args below meth c H locs cells slots Q (F0 m (pc + 3) ls rest)) : W p l e R s m args below meth c H locs cells slots Q (F0 m pc ls (.int (zI x) :: rest)) := by
  have hy : (-2147483648 : Int) ≤ 0 ∧ (0 : Int) < 2147483648 := by omega
  have h0 : zI 0 = (0 : Int32) := rfl
  have e1 := zI_eq hx hy
  have e2 := zI_lt hx hy
  have e3 := zI_le hx hy
  have e4 := zI_lt hy hx
  have e5 := zI_le hy hx
  rw [h0] at e1 e2 e3 e4 e5
  refine lv_if_eq F.1 F.2.1 hdg ht (fun h => kt ?_) (fun h => kf ?_)
  · first | exact e1.mp h | exact e2.mp h | exact e3.mp h | exact e4.mp h | exact e5.mp h | exact fun q => h (e1.mpr q) | exact Int.not_lt.mp (fun q => h (e2.mpr q)) | exact Int.not_lt.mp (fun q => h (e4.mpr q)) | exact Int.not_le.mp (fun q => h (e3.mpr q)) | exact Int.not_le.mp (fun q => h (e5.mpr q)) | exact fun q => h (e1.mp q) | (exact Classical.byContradiction fun q => h (fun z => q (e1.mp z)))
  · first | exact e1.mp h | exact e2.mp h | exact e3.mp h | exact e4.mp h | exact e5.mp h | exact fun q => h (e1.mpr q) | exact Int.not_lt.mp (fun q => h (e2.mpr q)) | exact Int.not_lt.mp (fun q => h (e4.mpr q)) | exact Int.not_le.mp (fun q => h (e3.mpr q)) | exact Int.not_le.mp (fun q => h (e5.mpr q)) | exact fun q => h (e1.mp q) | (exact Classical.byContradiction fun q => h (fun z => q (e1.mp z)))
theorem z_icmp_ne (F : CallFix p m c cc nL s args Ts own) {x y : Int} {off : Int} {tgt : Nat} (hx : -2147483648 ≤ x ∧ x < 2147483648) (hy : -2147483648 ≤ y ∧ y < 2147483648) (hdg : decode cc pc = .ok (.if_icmp .ne off, 3)) (ht : (pc : Int) + off = (tgt : Int)) (kt : x ≠ y → W p l e R s m args below meth c H locs cells slots Q (F0 m tgt ls rest)) (kf : x = y → W p l e R s m args below meth c H locs cells slots Q (F0 m (pc + 3) ls rest)) : W p l e R s m args below meth c H locs cells slots Q (F0 m pc ls (.int (zI y) :: .int (zI x) :: rest)) := by
  have e1 := zI_eq hx hy
  have e2 := zI_lt hx hy
  have e3 := zI_le hx hy
  have e4 := zI_lt hy hx
  have e5 := zI_le hy hx
  refine lv_icmp_ne F.1 F.2.1 hdg ht (fun h => kt ?_) (fun h => kf ?_)
  · first | exact e1.mp h | exact e2.mp h | exact e3.mp h | exact e4.mp h | exact e5.mp h | exact fun q => h (e1.mpr q) | exact Int.not_lt.mp (fun q => h (e2.mpr q)) | exact Int.not_lt.mp (fun q => h (e4.mpr q)) | exact Int.not_le.mp (fun q => h (e3.mpr q)) | exact Int.not_le.mp (fun q => h (e5.mpr q)) | exact fun q => h (e1.mp q) | (exact Classical.byContradiction fun q => h (fun z => q (e1.mp z)))
  · first | exact e1.mp h | exact e2.mp h | exact e3.mp h | exact e4.mp h | exact e5.mp h | exact fun q => h (e1.mpr q) | exact Int.not_lt.mp (fun q => h (e2.mpr q)) | exact Int.not_lt.mp (fun q => h (e4.mpr q)) | exact Int.not_le.mp (fun q => h (e3.mpr q)) | exact Int.not_le.mp (fun q => h (e5.mpr q)) | exact fun q => h (e1.mp q) | (exact Classical.byContradiction fun q => h (fun z => q (e1.mp z)))
theorem z_if_ne (F : CallFix p m c cc nL s args Ts own) {x : Int} {off : Int} {tgt : Nat} (hx : -2147483648 ≤ x ∧ x < 2147483648) (hdg : decode cc pc = .ok (.ifCond .ne off, 3)) (ht : (pc : Int) + off = (tgt : Int)) (kt : x ≠ 0 → W p l e R s m args below meth c H locs cells slots Q (F0 m tgt ls rest)) (kf : x = 0 → W p l e R s m args below meth c H locs cells slots Q (F0 m (pc + 3) ls rest)) : W p l e R s m args below meth c H locs cells slots Q (F0 m pc ls (.int (zI x) :: rest)) := by
  have hy : (-2147483648 : Int) ≤ 0 ∧ (0 : Int) < 2147483648 := by omega
  have h0 : zI 0 = (0 : Int32) := rfl
  have e1 := zI_eq hx hy
  have e2 := zI_lt hx hy
  have e3 := zI_le hx hy
  have e4 := zI_lt hy hx
  have e5 := zI_le hy hx
  rw [h0] at e1 e2 e3 e4 e5
  refine lv_if_ne F.1 F.2.1 hdg ht (fun h => kt ?_) (fun h => kf ?_)
  · first | exact e1.mp h | exact e2.mp h | exact e3.mp h | exact e4.mp h | exact e5.mp h | exact fun q => h (e1.mpr q) | exact Int.not_lt.mp (fun q => h (e2.mpr q)) | exact Int.not_lt.mp (fun q => h (e4.mpr q)) | exact Int.not_le.mp (fun q => h (e3.mpr q)) | exact Int.not_le.mp (fun q => h (e5.mpr q)) | exact fun q => h (e1.mp q) | (exact Classical.byContradiction fun q => h (fun z => q (e1.mp z)))
  · first | exact e1.mp h | exact e2.mp h | exact e3.mp h | exact e4.mp h | exact e5.mp h | exact fun q => h (e1.mpr q) | exact Int.not_lt.mp (fun q => h (e2.mpr q)) | exact Int.not_lt.mp (fun q => h (e4.mpr q)) | exact Int.not_le.mp (fun q => h (e3.mpr q)) | exact Int.not_le.mp (fun q => h (e5.mpr q)) | exact fun q => h (e1.mp q) | (exact Classical.byContradiction fun q => h (fun z => q (e1.mp z)))
theorem z_icmp_lt (F : CallFix p m c cc nL s args Ts own) {x y : Int} {off : Int} {tgt : Nat} (hx : -2147483648 ≤ x ∧ x < 2147483648) (hy : -2147483648 ≤ y ∧ y < 2147483648) (hdg : decode cc pc = .ok (.if_icmp .lt off, 3)) (ht : (pc : Int) + off = (tgt : Int)) (kt : x < y → W p l e R s m args below meth c H locs cells slots Q (F0 m tgt ls rest)) (kf : y ≤ x → W p l e R s m args below meth c H locs cells slots Q (F0 m (pc + 3) ls rest)) : W p l e R s m args below meth c H locs cells slots Q (F0 m pc ls (.int (zI y) :: .int (zI x) :: rest)) := by
  have e1 := zI_eq hx hy
  have e2 := zI_lt hx hy
  have e3 := zI_le hx hy
  have e4 := zI_lt hy hx
  have e5 := zI_le hy hx
  refine lv_icmp_lt F.1 F.2.1 hdg ht (fun h => kt ?_) (fun h => kf ?_)
  · first | exact e1.mp h | exact e2.mp h | exact e3.mp h | exact e4.mp h | exact e5.mp h | exact fun q => h (e1.mpr q) | exact Int.not_lt.mp (fun q => h (e2.mpr q)) | exact Int.not_lt.mp (fun q => h (e4.mpr q)) | exact Int.not_le.mp (fun q => h (e3.mpr q)) | exact Int.not_le.mp (fun q => h (e5.mpr q)) | exact fun q => h (e1.mp q) | (exact Classical.byContradiction fun q => h (fun z => q (e1.mp z)))
  · first | exact e1.mp h | exact e2.mp h | exact e3.mp h | exact e4.mp h | exact e5.mp h | exact fun q => h (e1.mpr q) | exact Int.not_lt.mp (fun q => h (e2.mpr q)) | exact Int.not_lt.mp (fun q => h (e4.mpr q)) | exact Int.not_le.mp (fun q => h (e3.mpr q)) | exact Int.not_le.mp (fun q => h (e5.mpr q)) | exact fun q => h (e1.mp q) | (exact Classical.byContradiction fun q => h (fun z => q (e1.mp z)))
theorem z_if_lt (F : CallFix p m c cc nL s args Ts own) {x : Int} {off : Int} {tgt : Nat} (hx : -2147483648 ≤ x ∧ x < 2147483648) (hdg : decode cc pc = .ok (.ifCond .lt off, 3)) (ht : (pc : Int) + off = (tgt : Int)) (kt : x < 0 → W p l e R s m args below meth c H locs cells slots Q (F0 m tgt ls rest)) (kf : 0 ≤ x → W p l e R s m args below meth c H locs cells slots Q (F0 m (pc + 3) ls rest)) : W p l e R s m args below meth c H locs cells slots Q (F0 m pc ls (.int (zI x) :: rest)) := by
  have hy : (-2147483648 : Int) ≤ 0 ∧ (0 : Int) < 2147483648 := by omega
  have h0 : zI 0 = (0 : Int32) := rfl
  have e1 := zI_eq hx hy
  have e2 := zI_lt hx hy
  have e3 := zI_le hx hy
  have e4 := zI_lt hy hx
  have e5 := zI_le hy hx
  rw [h0] at e1 e2 e3 e4 e5
  refine lv_if_lt F.1 F.2.1 hdg ht (fun h => kt ?_) (fun h => kf ?_)
  · first | exact e1.mp h | exact e2.mp h | exact e3.mp h | exact e4.mp h | exact e5.mp h | exact fun q => h (e1.mpr q) | exact Int.not_lt.mp (fun q => h (e2.mpr q)) | exact Int.not_lt.mp (fun q => h (e4.mpr q)) | exact Int.not_le.mp (fun q => h (e3.mpr q)) | exact Int.not_le.mp (fun q => h (e5.mpr q)) | exact fun q => h (e1.mp q) | (exact Classical.byContradiction fun q => h (fun z => q (e1.mp z)))
  · first | exact e1.mp h | exact e2.mp h | exact e3.mp h | exact e4.mp h | exact e5.mp h | exact fun q => h (e1.mpr q) | exact Int.not_lt.mp (fun q => h (e2.mpr q)) | exact Int.not_lt.mp (fun q => h (e4.mpr q)) | exact Int.not_le.mp (fun q => h (e3.mpr q)) | exact Int.not_le.mp (fun q => h (e5.mpr q)) | exact fun q => h (e1.mp q) | (exact Classical.byContradiction fun q => h (fun z => q (e1.mp z)))
theorem z_icmp_ge (F : CallFix p m c cc nL s args Ts own) {x y : Int} {off : Int} {tgt : Nat} (hx : -2147483648 ≤ x ∧ x < 2147483648) (hy : -2147483648 ≤ y ∧ y < 2147483648) (hdg : decode cc pc = .ok (.if_icmp .ge off, 3)) (ht : (pc : Int) + off = (tgt : Int)) (kt : y ≤ x → W p l e R s m args below meth c H locs cells slots Q (F0 m tgt ls rest)) (kf : x < y → W p l e R s m args below meth c H locs cells slots Q (F0 m (pc + 3) ls rest)) : W p l e R s m args below meth c H locs cells slots Q (F0 m pc ls (.int (zI y) :: .int (zI x) :: rest)) := by
  have e1 := zI_eq hx hy
  have e2 := zI_lt hx hy
  have e3 := zI_le hx hy
  have e4 := zI_lt hy hx
  have e5 := zI_le hy hx
  refine lv_icmp_ge F.1 F.2.1 hdg ht (fun h => kt ?_) (fun h => kf ?_)
  · first | exact e1.mp h | exact e2.mp h | exact e3.mp h | exact e4.mp h | exact e5.mp h | exact fun q => h (e1.mpr q) | exact Int.not_lt.mp (fun q => h (e2.mpr q)) | exact Int.not_lt.mp (fun q => h (e4.mpr q)) | exact Int.not_le.mp (fun q => h (e3.mpr q)) | exact Int.not_le.mp (fun q => h (e5.mpr q)) | exact fun q => h (e1.mp q) | (exact Classical.byContradiction fun q => h (fun z => q (e1.mp z)))
  · first | exact e1.mp h | exact e2.mp h | exact e3.mp h | exact e4.mp h | exact e5.mp h | exact fun q => h (e1.mpr q) | exact Int.not_lt.mp (fun q => h (e2.mpr q)) | exact Int.not_lt.mp (fun q => h (e4.mpr q)) | exact Int.not_le.mp (fun q => h (e3.mpr q)) | exact Int.not_le.mp (fun q => h (e5.mpr q)) | exact fun q => h (e1.mp q) | (exact Classical.byContradiction fun q => h (fun z => q (e1.mp z)))
theorem z_if_ge (F : CallFix p m c cc nL s args Ts own) {x : Int} {off : Int} {tgt : Nat} (hx : -2147483648 ≤ x ∧ x < 2147483648) (hdg : decode cc pc = .ok (.ifCond .ge off, 3)) (ht : (pc : Int) + off = (tgt : Int)) (kt : 0 ≤ x → W p l e R s m args below meth c H locs cells slots Q (F0 m tgt ls rest)) (kf : x < 0 → W p l e R s m args below meth c H locs cells slots Q (F0 m (pc + 3) ls rest)) : W p l e R s m args below meth c H locs cells slots Q (F0 m pc ls (.int (zI x) :: rest)) := by
  have hy : (-2147483648 : Int) ≤ 0 ∧ (0 : Int) < 2147483648 := by omega
  have h0 : zI 0 = (0 : Int32) := rfl
  have e1 := zI_eq hx hy
  have e2 := zI_lt hx hy
  have e3 := zI_le hx hy
  have e4 := zI_lt hy hx
  have e5 := zI_le hy hx
  rw [h0] at e1 e2 e3 e4 e5
  refine lv_if_ge F.1 F.2.1 hdg ht (fun h => kt ?_) (fun h => kf ?_)
  · first | exact e1.mp h | exact e2.mp h | exact e3.mp h | exact e4.mp h | exact e5.mp h | exact fun q => h (e1.mpr q) | exact Int.not_lt.mp (fun q => h (e2.mpr q)) | exact Int.not_lt.mp (fun q => h (e4.mpr q)) | exact Int.not_le.mp (fun q => h (e3.mpr q)) | exact Int.not_le.mp (fun q => h (e5.mpr q)) | exact fun q => h (e1.mp q) | (exact Classical.byContradiction fun q => h (fun z => q (e1.mp z)))
  · first | exact e1.mp h | exact e2.mp h | exact e3.mp h | exact e4.mp h | exact e5.mp h | exact fun q => h (e1.mpr q) | exact Int.not_lt.mp (fun q => h (e2.mpr q)) | exact Int.not_lt.mp (fun q => h (e4.mpr q)) | exact Int.not_le.mp (fun q => h (e3.mpr q)) | exact Int.not_le.mp (fun q => h (e5.mpr q)) | exact fun q => h (e1.mp q) | (exact Classical.byContradiction fun q => h (fun z => q (e1.mp z)))
theorem z_icmp_gt (F : CallFix p m c cc nL s args Ts own) {x y : Int} {off : Int} {tgt : Nat} (hx : -2147483648 ≤ x ∧ x < 2147483648) (hy : -2147483648 ≤ y ∧ y < 2147483648) (hdg : decode cc pc = .ok (.if_icmp .gt off, 3)) (ht : (pc : Int) + off = (tgt : Int)) (kt : y < x → W p l e R s m args below meth c H locs cells slots Q (F0 m tgt ls rest)) (kf : x ≤ y → W p l e R s m args below meth c H locs cells slots Q (F0 m (pc + 3) ls rest)) : W p l e R s m args below meth c H locs cells slots Q (F0 m pc ls (.int (zI y) :: .int (zI x) :: rest)) := by
  have e1 := zI_eq hx hy
  have e2 := zI_lt hx hy
  have e3 := zI_le hx hy
  have e4 := zI_lt hy hx
  have e5 := zI_le hy hx
  refine lv_icmp_gt F.1 F.2.1 hdg ht (fun h => kt ?_) (fun h => kf ?_)
  · first | exact e1.mp h | exact e2.mp h | exact e3.mp h | exact e4.mp h | exact e5.mp h | exact fun q => h (e1.mpr q) | exact Int.not_lt.mp (fun q => h (e2.mpr q)) | exact Int.not_lt.mp (fun q => h (e4.mpr q)) | exact Int.not_le.mp (fun q => h (e3.mpr q)) | exact Int.not_le.mp (fun q => h (e5.mpr q)) | exact fun q => h (e1.mp q) | (exact Classical.byContradiction fun q => h (fun z => q (e1.mp z)))
  · first | exact e1.mp h | exact e2.mp h | exact e3.mp h | exact e4.mp h | exact e5.mp h | exact fun q => h (e1.mpr q) | exact Int.not_lt.mp (fun q => h (e2.mpr q)) | exact Int.not_lt.mp (fun q => h (e4.mpr q)) | exact Int.not_le.mp (fun q => h (e3.mpr q)) | exact Int.not_le.mp (fun q => h (e5.mpr q)) | exact fun q => h (e1.mp q) | (exact Classical.byContradiction fun q => h (fun z => q (e1.mp z)))
theorem z_if_gt (F : CallFix p m c cc nL s args Ts own) {x : Int} {off : Int} {tgt : Nat} (hx : -2147483648 ≤ x ∧ x < 2147483648) (hdg : decode cc pc = .ok (.ifCond .gt off, 3)) (ht : (pc : Int) + off = (tgt : Int)) (kt : 0 < x → W p l e R s m args below meth c H locs cells slots Q (F0 m tgt ls rest)) (kf : x ≤ 0 → W p l e R s m args below meth c H locs cells slots Q (F0 m (pc + 3) ls rest)) : W p l e R s m args below meth c H locs cells slots Q (F0 m pc ls (.int (zI x) :: rest)) := by
  have hy : (-2147483648 : Int) ≤ 0 ∧ (0 : Int) < 2147483648 := by omega
  have h0 : zI 0 = (0 : Int32) := rfl
  have e1 := zI_eq hx hy
  have e2 := zI_lt hx hy
  have e3 := zI_le hx hy
  have e4 := zI_lt hy hx
  have e5 := zI_le hy hx
  rw [h0] at e1 e2 e3 e4 e5
  refine lv_if_gt F.1 F.2.1 hdg ht (fun h => kt ?_) (fun h => kf ?_)
  · first | exact e1.mp h | exact e2.mp h | exact e3.mp h | exact e4.mp h | exact e5.mp h | exact fun q => h (e1.mpr q) | exact Int.not_lt.mp (fun q => h (e2.mpr q)) | exact Int.not_lt.mp (fun q => h (e4.mpr q)) | exact Int.not_le.mp (fun q => h (e3.mpr q)) | exact Int.not_le.mp (fun q => h (e5.mpr q)) | exact fun q => h (e1.mp q) | (exact Classical.byContradiction fun q => h (fun z => q (e1.mp z)))
  · first | exact e1.mp h | exact e2.mp h | exact e3.mp h | exact e4.mp h | exact e5.mp h | exact fun q => h (e1.mpr q) | exact Int.not_lt.mp (fun q => h (e2.mpr q)) | exact Int.not_lt.mp (fun q => h (e4.mpr q)) | exact Int.not_le.mp (fun q => h (e3.mpr q)) | exact Int.not_le.mp (fun q => h (e5.mpr q)) | exact fun q => h (e1.mp q) | (exact Classical.byContradiction fun q => h (fun z => q (e1.mp z)))
theorem z_icmp_le (F : CallFix p m c cc nL s args Ts own) {x y : Int} {off : Int} {tgt : Nat} (hx : -2147483648 ≤ x ∧ x < 2147483648) (hy : -2147483648 ≤ y ∧ y < 2147483648) (hdg : decode cc pc = .ok (.if_icmp .le off, 3)) (ht : (pc : Int) + off = (tgt : Int)) (kt : x ≤ y → W p l e R s m args below meth c H locs cells slots Q (F0 m tgt ls rest)) (kf : y < x → W p l e R s m args below meth c H locs cells slots Q (F0 m (pc + 3) ls rest)) : W p l e R s m args below meth c H locs cells slots Q (F0 m pc ls (.int (zI y) :: .int (zI x) :: rest)) := by
  have e1 := zI_eq hx hy
  have e2 := zI_lt hx hy
  have e3 := zI_le hx hy
  have e4 := zI_lt hy hx
  have e5 := zI_le hy hx
  refine lv_icmp_le F.1 F.2.1 hdg ht (fun h => kt ?_) (fun h => kf ?_)
  · first | exact e1.mp h | exact e2.mp h | exact e3.mp h | exact e4.mp h | exact e5.mp h | exact fun q => h (e1.mpr q) | exact Int.not_lt.mp (fun q => h (e2.mpr q)) | exact Int.not_lt.mp (fun q => h (e4.mpr q)) | exact Int.not_le.mp (fun q => h (e3.mpr q)) | exact Int.not_le.mp (fun q => h (e5.mpr q)) | exact fun q => h (e1.mp q) | (exact Classical.byContradiction fun q => h (fun z => q (e1.mp z)))
  · first | exact e1.mp h | exact e2.mp h | exact e3.mp h | exact e4.mp h | exact e5.mp h | exact fun q => h (e1.mpr q) | exact Int.not_lt.mp (fun q => h (e2.mpr q)) | exact Int.not_lt.mp (fun q => h (e4.mpr q)) | exact Int.not_le.mp (fun q => h (e3.mpr q)) | exact Int.not_le.mp (fun q => h (e5.mpr q)) | exact fun q => h (e1.mp q) | (exact Classical.byContradiction fun q => h (fun z => q (e1.mp z)))
theorem z_if_le (F : CallFix p m c cc nL s args Ts own) {x : Int} {off : Int} {tgt : Nat} (hx : -2147483648 ≤ x ∧ x < 2147483648) (hdg : decode cc pc = .ok (.ifCond .le off, 3)) (ht : (pc : Int) + off = (tgt : Int)) (kt : x ≤ 0 → W p l e R s m args below meth c H locs cells slots Q (F0 m tgt ls rest)) (kf : 0 < x → W p l e R s m args below meth c H locs cells slots Q (F0 m (pc + 3) ls rest)) : W p l e R s m args below meth c H locs cells slots Q (F0 m pc ls (.int (zI x) :: rest)) := by
  have hy : (-2147483648 : Int) ≤ 0 ∧ (0 : Int) < 2147483648 := by omega
  have h0 : zI 0 = (0 : Int32) := rfl
  have e1 := zI_eq hx hy
  have e2 := zI_lt hx hy
  have e3 := zI_le hx hy
  have e4 := zI_lt hy hx
  have e5 := zI_le hy hx
  rw [h0] at e1 e2 e3 e4 e5
  refine lv_if_le F.1 F.2.1 hdg ht (fun h => kt ?_) (fun h => kf ?_)
  · first | exact e1.mp h | exact e2.mp h | exact e3.mp h | exact e4.mp h | exact e5.mp h | exact fun q => h (e1.mpr q) | exact Int.not_lt.mp (fun q => h (e2.mpr q)) | exact Int.not_lt.mp (fun q => h (e4.mpr q)) | exact Int.not_le.mp (fun q => h (e3.mpr q)) | exact Int.not_le.mp (fun q => h (e5.mpr q)) | exact fun q => h (e1.mp q) | (exact Classical.byContradiction fun q => h (fun z => q (e1.mp z)))
  · first | exact e1.mp h | exact e2.mp h | exact e3.mp h | exact e4.mp h | exact e5.mp h | exact fun q => h (e1.mpr q) | exact Int.not_lt.mp (fun q => h (e2.mpr q)) | exact Int.not_lt.mp (fun q => h (e4.mpr q)) | exact Int.not_le.mp (fun q => h (e3.mpr q)) | exact Int.not_le.mp (fun q => h (e5.mpr q)) | exact fun q => h (e1.mp q) | (exact Classical.byContradiction fun q => h (fun z => q (e1.mp z)))

theorem up_at (G : zM) (i : Nat) (k v : Int) : up G i k v i = fun k' => if k' = k then v else G i k' := by
  funext k'
  simp [up]
theorem Zs_set (hZ : Zs w dom A H0 sz G H locs) (hDA : ∀ i, dom i → A (w.2.1 + i)) {i : Nat} (hi : dom i) {G' : zM} {H1 : Heap} {k : Nat} (hG : zRng G') (ho : ∀ i', i' ≠ i → G' i' = G i') (z : H1.size = H.size) (oq : ∀ q : Nat, q ≠ w.2.1 + i → H1[q]? = H[q]?) (he : va_at w.1 vwCl (w.2.1 + i, zE w i (G' i)) H1) : Zs w dom A H0 sz G' H1 (locs ++ [⟨w.2.1 + i, k⟩]) := by
  obtain ⟨h1, h2, h3⟩ := hZ
  refine ⟨z.trans h1, ⟨hG, fun i' hi' => ?_⟩, h3.put z oq (hDA i hi)⟩
  by_cases e : i' = i
  · rw [e]; exact he
  · rw [ho i' e]
    exact (h2.2 i' hi').kept (oq _ (by omega))
theorem z_get (F : CallFix p m c cc nL s args Ts own) (hK : zK w s) (hZ : Zs w dom A H0 sz G H locs) (i : Nat) (hi : dom i) {k len : Nat} (hs : shp i = (k, len)) (hk9 : k < 9) {C : String} {T : u_T} {N index : Nat} (hc : vwCl[k]? = some (C, T, N)) (hin : ∀ v ∈ u_ws C T N, v ∈ Ts) (kf : Nat) (hk : kf < N) (hlink : Cond.fieldLink own index C (T kf).2.1 (T kf).2.2.1 ∈ Ts) (hsame : (T kf).1 = C) {v : Value} (hv : (zFs w k i (G i))[kf]? = some v) (hdg : decode cc pc = .ok (.getfield index, 3))
    (kk : W p l e R s m args below meth c H locs cells slots Q (F0 m (pc + 3) ls (v :: rest))) : W p l e R s m args below meth c H locs cells slots Q (F0 m pc ls (.ref (w.2.1 + i) :: rest)) := by
  have h := hZ.2.1.2 i hi
  rw [zE_of hs] at h
  have hP : va_P w.1 vwCl [(w.2.1 + i, .inr (k, zFs w k i (G i)))] H := by
    intro q x hx
    cases q with
    | zero => cases hx; simpa [zC, hk9] using h
    | succ q => simp at hx
  refine va_get F.1 F.2.1 F.2.2.2.2 hin F.2.2.2.1 hK.1 hP 0 rfl hc kf hk (F.2.2.2.2 _ hlink) ?_ hv hdg kk
  intro x hx
  rw [hsame] at hx
  exact hx
theorem z_put (F : CallFix p m c cc nL s args Ts own) (hK : zK w s) (hZ : Zs w dom A H0 sz G H locs) (hDA : ∀ i, dom i → A (w.2.1 + i)) (i : Nat) (hi : dom i) {k len : Nat} (hs : shp i = (k, len)) (hk9 : k < 9) {C : String} {T : u_T} {N index : Nat} (hc : vwCl[k]? = some (C, T, N)) (hin : ∀ v ∈ u_ws C T N, v ∈ Ts) (ty0 : Nat → FieldType) (hty : ∀ k, k < N → parseFieldDescriptor (T k).2.2.1 = some (ty0 k)) (hnm : ∀ a, a < N → ∀ b, b < N → a ≠ b → (T a).2.1 ≠ (T b).2.1) (kf : Nat) (hk : kf < N) (hlink : Cond.fieldLink own index C (T kf).2.1 (T kf).2.2.1 ∈ Ts) (hsame : (T kf).1 = C) (hfin : (T kf).2.2.2 = false) {v : Value} {z kz : Int} (hn : narrow (ty0 kf) v = v) (hfit : fits (ty0 kf) v = true) (hr : -2147483648 ≤ z ∧ z < 2147483648) (hkz : ((kf : Nat) : Int) = kz) (hset : zFs w k i (fun k' => if k' = kz then z else G i k') = (zFs w k i (G i)).set kf v) (hl : kf < (zFs w k i (G i)).length) (hdg : decode cc pc = .ok (.putfield index, 3))
    (kk : ∀ (H1 : Heap) (locs1 : List Loc), Zs w dom A H0 sz (up G i kz z) H1 locs1 → W p l e R s m args below meth c H1 locs1 cells slots Q (F0 m (pc + 3) ls rest)) : W p l e R s m args below meth c H locs cells slots Q (F0 m pc ls (v :: .ref (w.2.1 + i) :: rest)) := by
  have h := hZ.2.1.2 i hi
  rw [zE_of hs] at h
  have h : va_at w.1 vwCl (w.2.1 + i, .inr (k, zFs w k i (G i))) H := by simpa [zC, hk9] using h
  have hts := F.2.2.2.2
  have hap := va_apart (own := own) hts hin ty0 hty hnm hK.1 hc
  obtain ⟨r, h1, cell, q1, q2, q3, q4⟩ := h
  have hr' : r = (C, T, N) := Option.some.inj (h1.symm.trans hc)
  subst hr'
  obtain ⟨hS, hfc, kC, hkC, hkind⟩ := hK.1.1 k _ hc
  obtain ⟨cf, kf', fi, f, hi', hsl⟩ := hS kf hk
  have hlay := hts _ (hin _ (u_in_lay hk))
  unfold u_lay at hlay
  rw [if_neg (by rw [hfin]; decide)] at hlay
  have hst := (u_facts hfc hkC (u_lays hts hin hk) hi').1
  have h6 := u_store hfc hkC hkind hlay hi' (hty kf hk) hn hfit
  have hi2 := hi'
  rw [hsame] at hi2
  refine W.putK F.1 F.2.1 (f := f) ⟨F.2.2.2.1, hts _ hlink, ⟨_, _, _, hi2⟩, hst⟩ (by rw [q2]; exact h6) q1 q3 (by rw [hsl]; exact k2_hasslot (q4 kf hk)) rfl rfl hdg fun H' e1 e2 e3 => ?_
  rw [hsl] at e1 ⊢
  refine kk H' _ (Zs_set hZ hDA hi (zRng_up hZ.2.1.1 i kz hr) (fun i' q => up_cell G kz z q) e2 e3 ?_)
  rw [zE_of hs, up_at]
  have : zC w k len i (fun k' => if k' = kz then z else G i k') = .inr (k, (zFs w k i (G i)).set kf v) := by
    unfold zC
    rw [if_pos hk9, hset]
  rw [this]
  exact ⟨_, hc, t_OB.to (V := updV (vp_V (zFs w k i (G i))) kf v) ⟨_, e1, q2, q3, t_set q4 hap hk v⟩ (fun j _ => vp_updV_set hl v j)⟩
theorem z_iald (F : CallFix p m c cc nL s args Ts own) (hK : zK w s) (hZ : Zs w dom A H0 sz G H locs) (i : Nat) (hi : dom i) {len : Nat} (hs : shp i = (9, len)) (hlen : len < 2147483648) {z : Int} (h0 : 0 ≤ z) (h1 : z < len) (hdg : decode cc pc = .ok (.iaload, 1))
    (kk : W p l e R s m args below meth c H locs cells slots Q (F0 m (pc + 1) ls (.int (zI (G i z)) :: rest))) : W p l e R s m args below meth c H locs cells slots Q (F0 m pc ls (.int (zI z) :: .ref (w.2.1 + i) :: rest)) := by
  have h := hZ.2.1.2 i hi
  rw [zE_of hs] at h
  have hP : va_P w.1 vwCl [(w.2.1 + i, .inl (w.2.2.1, len, .inl (fun j => zI (G i j))))] H := by
    intro q x hx
    cases q with
    | zero => cases hx; simpa [zC] using h
    | succ q => simp at hx
  refine va_iald F.1 F.2.1 hK.1 hP 0 0 rfl rfl (zI_in h0 h1 hlen) hdg ?_
  rw [zI_clamp h0 (by omega), show ((z.toNat : Nat) : Int) = z by omega]
  exact kk
theorem z_zald (F : CallFix p m c cc nL s args Ts own) (hK : zK w s) (hZ : Zs w dom A H0 sz G H locs) (i : Nat) (hi : dom i) {len : Nat} (hs : shp i = (10, len)) (hlen : len < 2147483648) {z : Int} (h0 : 0 ≤ z) (h1 : z < len) (hdg : decode cc pc = .ok (.baload, 1))
    (kk : W p l e R s m args below meth c H locs cells slots Q (F0 m (pc + 1) ls (.int (zI (G i z)) :: rest))) : W p l e R s m args below meth c H locs cells slots Q (F0 m pc ls (.int (zI z) :: .ref (w.2.1 + i) :: rest)) := by
  have h := hZ.2.1.2 i hi
  rw [zE_of hs] at h
  have hP : va_P w.1 vwCl [(w.2.1 + i, .inl (w.2.2.2.1, len, .inl (fun j => zI (G i j))))] H := by
    intro q x hx
    cases q with
    | zero => cases hx; simpa [zC] using h
    | succ q => simp at hx
  refine va_zald F.1 F.2.1 hK.1 hP 0 1 rfl rfl (zI_in h0 h1 hlen) hdg ?_
  rw [zI_clamp h0 (by omega), show ((z.toNat : Nat) : Int) = z by omega]
  exact kk
theorem z_aald (F : CallFix p m c cc nL s args Ts own) (hK : zK w s) (hZ : Zs w dom A H0 sz G H locs) (i : Nat) (hi : dom i) {k len : Nat} (hk : k = 11 ∨ k = 12) (hs : shp i = (k, len)) (hlen : len < 2147483648) {z : Int} (h0 : 0 ≤ z) (h1 : z < len) (hdg : decode cc pc = .ok (.aaload, 1))
    (kk : W p l e R s m args below meth c H locs cells slots Q (F0 m (pc + 1) ls (zV w (G i z) :: rest))) : W p l e R s m args below meth c H locs cells slots Q (F0 m pc ls (.int (zI z) :: .ref (w.2.1 + i) :: rest)) := by
  have h := hZ.2.1.2 i hi
  rw [zE_of hs] at h
  have e : va_rf (zO w (G i ((zI z).toNatClampNeg : Nat))) = zV w (G i z) := by
    rw [zV_rf, zI_clamp h0 (by omega), show ((z.toNat : Nat) : Int) = z by omega]
  rcases hk with rfl | rfl
  · have hP : va_P w.1 vwCl [(w.2.1 + i, .inl (w.2.2.2.2.1, len, .inr (.inr (.inr (.inr (fun j => zO w (G i j)))))))] H := by
      intro q x hx
      cases q with
      | zero => cases hx; simpa [zC] using h
      | succ q => simp at hx
    refine va_aldq F.1 F.2.1 hK.1 hP 0 2 rfl rfl (zI_in h0 h1 hlen) hdg ?_
    rw [e]
    exact kk
  · have hP : va_P w.1 vwCl [(w.2.1 + i, .inl (w.2.2.2.2.2, len, .inr (.inr (.inr (.inr (fun j => zO w (G i j)))))))] H := by
      intro q x hx
      cases q with
      | zero => cases hx; simpa [zC] using h
      | succ q => simp at hx
    refine va_aldq F.1 F.2.1 hK.1 hP 0 3 rfl rfl (zI_in h0 h1 hlen) hdg ?_
    rw [e]
    exact kk
theorem zC_arr {len i : Nat} {f : Int → Int} {w : zW} : (zC w 9 len i f = .inl (w.2.2.1, len, .inl (fun j => zI (f j)))) ∧ (zC w 10 len i f = .inl (w.2.2.2.1, len, .inl (fun j => zI (f j)))) ∧ (zC w 11 len i f = .inl (w.2.2.2.2.1, len, .inr (.inr (.inr (.inr (fun j => zO w (f j))))))) ∧ (zC w 12 len i f = .inl (w.2.2.2.2.2, len, .inr (.inr (.inr (.inr (fun j => zO w (f j))))))) := ⟨rfl, rfl, rfl, rfl⟩
theorem zup_arr {α : Type} (g : Int → α) (f : Int → Int) {z v : Int} (h0 : 0 ≤ z) (φ : Int → α) : (fun j : Nat => φ (if (j : Int) = z then v else f j)) = fun j : Nat => if j = z.toNat then φ v else φ (f j) := by
  funext j
  by_cases h : j = z.toNat
  · rw [if_pos h, if_pos (by omega)]
  · rw [if_neg h, if_neg (by omega)]
theorem z_iast (F : CallFix p m c cc nL s args Ts own) (hK : zK w s) (hZ : Zs w dom A H0 sz G H locs) (hDA : ∀ i, dom i → A (w.2.1 + i)) (i : Nat) (hi : dom i) {len : Nat} (hs : shp i = (9, len)) (hlen : len < 2147483648) {z v : Int} (h0 : 0 ≤ z) (h1 : z < len) (hr : -2147483648 ≤ v ∧ v < 2147483648) (hdg : decode cc pc = .ok (.iastore, 1))
    (kk : ∀ (H1 : Heap) (locs1 : List Loc), Zs w dom A H0 sz (up G i z v) H1 locs1 → W p l e R s m args below meth c H1 locs1 cells slots Q (F0 m (pc + 1) ls rest)) : W p l e R s m args below meth c H locs cells slots Q (F0 m pc ls (.int (zI v) :: .int (zI z) :: .ref (w.2.1 + i) :: rest)) := by
  have h := hZ.2.1.2 i hi
  rw [zE_of hs, zC_arr.1] at h
  have hz := zI_in h0 h1 hlen
  refine W.iast F.1 F.2.1 h ((hK.1.2 0 _ rfl).1 len (fun j => .int (zI (G i j)))) (fun q => by cases q) (by show ¬ (zI z < 0 ∨ (arrV _ _ _).slots.size ≤ _); rw [arrV_size]; exact hz) rfl rfl hdg fun H1 e zz oq => ?_
  refine kk H1 _ (Zs_set (k := (zI z).toNatClampNeg) hZ hDA hi (zRng_up hZ.2.1.1 i z hr) (fun i' q => up_cell G z v q) zz oq ?_)
  rw [zE_of hs, zC_arr.1, up_at]
  show H1[w.2.1 + i]? = some (vp_cell _ _)
  rw [e, vp_cell_i, vp_cell_i, arrV_store, zI_clamp h0 (by omega)]
  congr 2
  funext q
  by_cases hq : q = z.toNat
  · subst hq
    rw [show ((z.toNat : Nat) : Int) = z by omega]
    simp [updV]
  · have : ¬ ((q : Int) = z) := by omega
    simp [updV, hq, this]
theorem z_zast (F : CallFix p m c cc nL s args Ts own) (hK : zK w s) (hZ : Zs w dom A H0 sz G H locs) (hDA : ∀ i, dom i → A (w.2.1 + i)) (i : Nat) (hi : dom i) {len : Nat} (hs : shp i = (10, len)) (hlen : len < 2147483648) {z v : Int} (h0 : 0 ≤ z) (h1 : z < len) (hr : v = 0 ∨ v = 1) (hdg : decode cc pc = .ok (.bastore, 1))
    (kk : ∀ (H1 : Heap) (locs1 : List Loc), Zs w dom A H0 sz (up G i z v) H1 locs1 → W p l e R s m args below meth c H1 locs1 cells slots Q (F0 m (pc + 1) ls rest)) : W p l e R s m args below meth c H locs cells slots Q (F0 m pc ls (.int (zI v) :: .int (zI z) :: .ref (w.2.1 + i) :: rest)) := by
  have h := hZ.2.1.2 i hi
  rw [zE_of hs, zC_arr.2.1] at h
  have hz := zI_in h0 h1 hlen
  have hnar : narrow .boolean (.int (zI v)) = .int (zI v) := by rcases hr with rfl | rfl <;> decide
  refine W.zast F.1 F.2.1 h ((hK.1.2 1 _ rfl).1 len (fun j => .int (zI (G i j)))) (fun q => by cases q) (by show ¬ (zI z < 0 ∨ (arrV _ _ _).slots.size ≤ _); rw [arrV_size]; exact hz) rfl rfl hdg fun H1 e zz oq => ?_
  refine kk H1 _ (Zs_set (k := (zI z).toNatClampNeg) hZ hDA hi (zRng_up hZ.2.1.1 i z (by omega)) (fun i' q => up_cell G z v q) zz oq ?_)
  rw [zE_of hs, zC_arr.2.1, up_at]
  show H1[w.2.1 + i]? = some (vp_cell _ _)
  rw [e, hnar, vp_cell_i, vp_cell_i, arrV_store, zI_clamp h0 (by omega)]
  congr 2
  funext q
  by_cases hq : q = z.toNat
  · subst hq
    rw [show ((z.toNat : Nat) : Int) = z by omega]
    simp [updV]
  · have : ¬ ((q : Int) = z) := by omega
    simp [updV, hq, this]
/-- a Letter put into a row of Letters -/
theorem z_aast (F : CallFix p m c cc nL s args Ts own) (hK : zK w s) (hZ : Zs w dom A H0 sz G H locs) (hDA : ∀ i, dom i → A (w.2.1 + i)) (i : Nat) (hi : dom i) {len : Nat} (hs : shp i = (11, len)) (hlen : len < 2147483648) {z : Int} {j : Nat} (hj : dom j) (hsj : shp j = (2, 0)) (hjr : j < 2147483648) (h0 : 0 ≤ z) (h1 : z < len) (hdg : decode cc pc = .ok (.aastore, 1))
    (kk : ∀ (H1 : Heap) (locs1 : List Loc), Zs w dom A H0 sz (up G i z j) H1 locs1 → W p l e R s m args below meth c H1 locs1 cells slots Q (F0 m (pc + 1) ls rest)) : W p l e R s m args below meth c H locs cells slots Q (F0 m pc ls (.ref (w.2.1 + j) :: .int (zI z) :: .ref (w.2.1 + i) :: rest)) := by
  have h := hZ.2.1.2 i hi
  rw [zE_of hs, zC_arr.2.2.1] at h
  have hv := hZ.2.1.2 j hj
  rw [zE_of hsj] at hv
  have hz := zI_in h0 h1 hlen
  have hlt : (zI z).toNatClampNeg < len := Nat.not_le.mp fun q => hz (Or.inr q)
  have hn0 : ¬ zI z < 0 := fun q => hz (Or.inl q)
  obtain ⟨r', hr', cellV, g1, g2, g3, -⟩ := hv
  have hc : vwCl[2]? = some (RX2, TX2, 8) := rfl
  have hcls := (hK.1.1 2 _ hc).2
  obtain ⟨kA, comp, k1, k2, k3, -⟩ := (hK.1.2 2 _ rfl).2
  have hcomp : comp = w.1.1 2 := Option.some.inj (k3.symm.trans hcls.1)
  subst hcomp
  obtain ⟨kC, hkC, -⟩ := hcls.2
  refine W.aast F.1 F.2.1 h (fun q h => by cases h) (fun h => by cases h) k1 k2 rfl hkC ⟨hn0, by show _ < (arrV _ _ _).slots.size; rw [arrV_size]; exact hlt⟩ g1 (fun q h => by rw [g3] at h; cases h) (by rw [g2]; exact hkC) (by rw [g2]; exact va_assign hcls) rfl rfl hdg fun H1 e zz oq => ?_
  refine kk H1 _ (Zs_set (k := (zI z).toNatClampNeg) hZ hDA hi (zRng_up hZ.2.1.1 i z (by omega)) (fun i' q => up_cell G z j q) zz oq ?_)
  rw [zE_of hs, zC_arr.2.2.1, up_at]
  show H1[w.2.1 + i]? = some (vp_cell _ _)
  rw [e, vp_cell_q, vp_cell_q, arrV_store, zI_clamp h0 (by omega)]
  congr 2
  funext q
  by_cases hq : q = z.toNat
  · subst hq
    rw [show ((z.toNat : Nat) : Int) = z by omega]
    simp [updV, zO, va_rf, show ¬ ((j : Int) < 0) by omega]
  · have : ¬ ((q : Int) = z) := by omega
    simp [updV, hq, this]
theorem z_aastN (F : CallFix p m c cc nL s args Ts own) (hK : zK w s) (hZ : Zs w dom A H0 sz G H locs) (hDA : ∀ i, dom i → A (w.2.1 + i)) (i : Nat) (hi : dom i) {len : Nat} (hs : shp i = (11, len)) (hlen : len < 2147483648) {z : Int} (h0 : 0 ≤ z) (h1 : z < len) (hdg : decode cc pc = .ok (.aastore, 1))
    (kk : ∀ (H1 : Heap) (locs1 : List Loc), Zs w dom A H0 sz (up G i z (-1)) H1 locs1 → W p l e R s m args below meth c H1 locs1 cells slots Q (F0 m (pc + 1) ls rest)) : W p l e R s m args below meth c H locs cells slots Q (F0 m pc ls (.null :: .int (zI z) :: .ref (w.2.1 + i) :: rest)) := by
  have h := hZ.2.1.2 i hi
  rw [zE_of hs, zC_arr.2.2.1] at h
  have hz := zI_in h0 h1 hlen
  refine va_WaastN (C := "LockedChain$Letter") F.1 F.2.1 h ((hK.1.2 2 _ rfl).1 len (fun j => va_rf (zO w (G i j)))) (fun q => by cases q) (by show ¬ (zI z < 0 ∨ (arrV _ _ _).slots.size ≤ _); rw [arrV_size]; exact hz) rfl rfl hdg fun H1 e zz oq => ?_
  refine kk H1 _ (Zs_set (k := (zI z).toNatClampNeg) hZ hDA hi (zRng_up hZ.2.1.1 i z (by omega)) (fun i' q => up_cell G z (-1) q) zz oq ?_)
  rw [zE_of hs, zC_arr.2.2.1, up_at]
  show H1[w.2.1 + i]? = some (vp_cell _ _)
  rw [e, vp_cell_q, vp_cell_q, arrV_store, zI_clamp h0 (by omega)]
  congr 2
  funext q
  by_cases hq : q = z.toNat
  · subst hq
    rw [show ((z.toNat : Nat) : Int) = z by omega]
    simp [updV, zO, va_rf]
  · have : ¬ ((q : Int) = z) := by omega
    simp [updV, hq, this]
theorem z_alen (F : CallFix p m c cc nL s args Ts own) (hK : zK w s) (hZ : Zs w dom A H0 sz G H locs) (i : Nat) (hi : dom i) {k len : Nat} (hk : k = 9 ∨ k = 10 ∨ k = 11 ∨ k = 12) (hs : shp i = (k, len)) (hdg : decode cc pc = .ok (.arraylength, 1))
    (kk : W p l e R s m args below meth c H locs cells slots Q (F0 m (pc + 1) ls (.int (zI len) :: rest))) : W p l e R s m args below meth c H locs cells slots Q (F0 m pc ls (.ref (w.2.1 + i) :: rest)) := by
  have h := hZ.2.1.2 i hi
  rw [zE_of hs] at h
  have hv : Int32.ofNat len = zI len := by unfold zI; rw [Int32.ofInt_eq_ofNat]
  rcases hk with rfl | rfl | rfl | rfl
  · have hP : va_P w.1 vwCl [(w.2.1 + i, .inl (w.2.2.1, len, .inl (fun j => zI (G i j))))] H := by
      intro q x hx
      cases q with
      | zero => cases hx; simpa [zC] using h
      | succ q => simp at hx
    exact va_alen F.1 F.2.1 hK.1 hP 0 0 rfl rfl hv hdg kk
  · have hP : va_P w.1 vwCl [(w.2.1 + i, .inl (w.2.2.2.1, len, .inl (fun j => zI (G i j))))] H := by
      intro q x hx
      cases q with
      | zero => cases hx; simpa [zC] using h
      | succ q => simp at hx
    exact va_alen F.1 F.2.1 hK.1 hP 0 1 rfl rfl hv hdg kk
  · have hP : va_P w.1 vwCl [(w.2.1 + i, .inl (w.2.2.2.2.1, len, .inr (.inr (.inr (.inr (fun j => zO w (G i j)))))))] H := by
      intro q x hx
      cases q with
      | zero => cases hx; simpa [zC] using h
      | succ q => simp at hx
    exact va_alen F.1 F.2.1 hK.1 hP 0 2 rfl rfl hv hdg kk
  · have hP : va_P w.1 vwCl [(w.2.1 + i, .inl (w.2.2.2.2.2, len, .inr (.inr (.inr (.inr (fun j => zO w (G i j)))))))] H := by
      intro q x hx
      cases q with
      | zero => cases hx; simpa [zC] using h
      | succ q => simp at hx
    exact va_alen F.1 F.2.1 hK.1 hP 0 3 rfl rfl hv hdg kk
theorem z_ifnull (F : CallFix p m c cc nL s args Ts own) {z : Int} {off : Int} {tgt : Nat} (hdg : decode cc pc = .ok (.ifnull off, 3)) (ht : (pc : Int) + off = (tgt : Int)) (kt : z < 0 → W p l e R s m args below meth c H locs cells slots Q (F0 m tgt ls rest)) (kf : 0 ≤ z → W p l e R s m args below meth c H locs cells slots Q (F0 m (pc + 3) ls rest)) : W p l e R s m args below meth c H locs cells slots Q (F0 m pc ls (zV w z :: rest)) := by
  by_cases h : z < 0
  · rw [zV_neg h]
    exact lv_ifnullN F.1 F.2.1 hdg ht (kt h)
  · rw [zV_pos (Int.not_lt.mp h)]
    exact lv_ifnull F.1 F.2.1 hdg (kf (Int.not_lt.mp h))
theorem z_ifnonnull (F : CallFix p m c cc nL s args Ts own) {z : Int} {off : Int} {tgt : Nat} (hdg : decode cc pc = .ok (.ifnonnull off, 3)) (ht : (pc : Int) + off = (tgt : Int)) (kt : 0 ≤ z → W p l e R s m args below meth c H locs cells slots Q (F0 m tgt ls rest)) (kf : z < 0 → W p l e R s m args below meth c H locs cells slots Q (F0 m (pc + 3) ls rest)) : W p l e R s m args below meth c H locs cells slots Q (F0 m pc ls (zV w z :: rest)) := by
  by_cases h : z < 0
  · rw [zV_neg h]
    exact lv_ifnonnullN F.1 F.2.1 hdg (kf h)
  · rw [zV_pos (Int.not_lt.mp h)]
    exact lv_ifnonnull F.1 F.2.1 hdg ht (kt (Int.not_lt.mp h))
theorem z_vret {mc ms : Nat} {Φ : zM → Prop} (F : CallFix p m c cc nL s args Ts own) (hr : meth.sig.returnType = none) (hlocks : meth.locks = false) (hZ : Zs w dom A s.heap sz G H locs) (hΦ : Φ G) (hdg : decode cc pc = .ok (.return_, 1)) (hc : cells ≤ mc) (hs : slots ≤ ms) : W p l e R s m args below meth c H locs cells slots (MQ below (zQv w dom sz Φ A) args s mc ms A) (F0 m pc ls []) :=
  W.widen hc hs (W.vret F.1 F.2.1 hr (fun t ht hW => ⟨⟨G, rfl, hΦ, ⟨by rw [ht]; exact hZ.1, by rw [ht]; exact hZ.2.1⟩⟩, hZ.2.2.F ht⟩) hZ.2.2.2.2 hdg hlocks)
theorem z_iret {mc ms : Nat} {Φ : zM → Prop} {v z : Int} (F : CallFix p m c cc nL s args Ts own) (hr : meth.sig.returnType = some .int) (hlocks : meth.locks = false) (hZ : Zs w dom A s.heap sz G H locs) (hv : v = z) (hΦ : Φ G) (hdg : decode cc pc = .ok (.ireturn, 1)) (hc : cells ≤ mc) (hs : slots ≤ ms) : W p l e R s m args below meth c H locs cells slots (MQ below (zQi w dom sz z Φ A) args s mc ms A) (F0 m pc ls [.int (zI v)]) :=
  W.widen hc hs (W.iret F.1 F.2.1 hr (fun t ht hW => ⟨⟨zI v, G, rfl, ⟨by rw [hv], hΦ⟩, ⟨by rw [ht]; exact hZ.1, by rw [ht]; exact hZ.2.1⟩⟩, hZ.2.2.F ht⟩) hZ.2.2.2.2 hdg hlocks)
theorem z_zret {mc ms : Nat} {Φ : zM → Prop} {v z : Int} (F : CallFix p m c cc nL s args Ts own) (hr : meth.sig.returnType = some .boolean) (hlocks : meth.locks = false) (hZ : Zs w dom A s.heap sz G H locs) (hv : v = z) (hb : v = 0 ∨ v = 1) (hΦ : Φ G) (hdg : decode cc pc = .ok (.ireturn, 1)) (hc : cells ≤ mc) (hs : slots ≤ ms) : W p l e R s m args below meth c H locs cells slots (MQ below (zQi w dom sz z Φ A) args s mc ms A) (F0 m pc ls [.int (zI v)]) :=
  W.widen hc hs (W.zret F.1 F.2.1 hr (by rcases hb with rfl | rfl <;> decide) (fun t ht hW => ⟨⟨zI v, G, rfl, ⟨by rw [hv], hΦ⟩, ⟨by rw [ht]; exact hZ.1, by rw [ht]; exact hZ.2.1⟩⟩, hZ.2.2.F ht⟩) hZ.2.2.2.2 hdg hlocks)
theorem z_aret {mc ms : Nat} {Φ : zM → Prop} {v z : Int} {rt : FieldType} (F : CallFix p m c cc nL s args Ts own) (hr : meth.sig.returnType = some rt) (hrt : (∃ n, rt = .object n) ∨ ∃ t, rt = .array t) (hlocks : meth.locks = false) (hZ : Zs w dom A s.heap sz G H locs) (hv : v = z) (hΦ : Φ G) (hdg : decode cc pc = .ok (.areturn, 1)) (hc : cells ≤ mc) (hs : slots ≤ ms) : W p l e R s m args below meth c H locs cells slots (MQ below (zQr w dom sz z Φ A) args s mc ms A) (F0 m pc ls [zV w v]) :=
  W.widen hc hs (W.aret F.1 F.2.1 hr hrt (by unfold zV; split; exact Or.inl rfl; exact Or.inr ⟨_, rfl⟩) (fun t ht hW => ⟨⟨zO w v, G, by rw [zV_rf], ⟨by rw [hv], hΦ⟩, ⟨by rw [ht]; exact hZ.1, by rw [ht]; exact hZ.2.1⟩⟩, hZ.2.2.F ht⟩) hZ.2.2.2.2 hdg hlocks)
/-- calls over the same cells: instance methods (V), static ones (S) -/
theorem z_recv (hK : zK w s) (hZ : Zs w dom A H0 sz G H locs) (i : Nat) (hi : dom i) {k len : Nat} (hs : shp i = (k, len)) (hk9 : k < 9) {C : String} {T : u_T} {N : Nat} (hc : vwCl[k]? = some (C, T, N)) : ∃ cell : Cell, H[w.2.1 + i]? = some cell ∧ cell.vm.isStatics = false ∧ s.vm.findClass C = some cell.cls := by
  have h := hZ.2.1.2 i hi
  rw [zE_of hs] at h
  have hP : va_P w.1 vwCl [(w.2.1 + i, .inr (k, zFs w k i (G i)))] H := by
    intro q x hx
    cases q with
    | zero => cases hx; simpa [zC, hk9] using h
    | succ q => simp at hx
  exact va_recv (q0 := 0) hK.1 hP hc rfl
theorem z_preV (hK : zK w s) (hZ : Zs w dom A H0 sz G H locs) (i : Nat) (hi : dom i) {k len : Nat} (hs : shp i = (k, len)) (hk9 : k < 9) {C : String} {T : u_T} {N : Nat} (hc : vwCl[k]? = some (C, T, N)) (As : List Value) : PreV s H C (w.2.1 + i) (zPre w dom sz G (.ref (w.2.1 + i) :: As)) As :=
  ⟨zPre_blind _ _ _ _ _, z_recv hK hZ i hi hs hk9 hc, fun U hU hW => ⟨rfl, by rw [hU]; exact hZ.1, by rw [hU]; exact hZ.2.1, hK.moved hW⟩⟩
theorem z_preS (hK : zK w s) (hZ : Zs w dom A H0 sz G H locs) (As : List Value) : PreS s H (zPre w dom sz G As) As :=
  ⟨zPre_blind _ _ _ _ _, fun U hU hW => ⟨rfl, by rw [hU]; exact hZ.1, by rw [hU]; exact hZ.2.1, hK.moved hW⟩⟩
theorem z_backv {st0 : List Value} {a : Array Value} {mc ms : Nat} {dom' : Nat → Prop} {sz' : Nat} {Φ : zM → Prop} (hZ : Zs w dom A H0 sz G H locs) (hr : va_Run p l e R s m args below meth c H locs cells slots mc ms (F0 m pc ls st0) rest (zQv w dom' sz' Φ A a) A)
    (kk : ∀ (C : zM) (H1 : Heap) (locs1 : List Loc), Φ C → Zs w dom' A H0 sz' C H1 locs1 → W p l e R s m args below meth c H1 locs1 (cells + mc) (slots + ms) Q (F0 m (pc + 3) ls rest)) : W p l e R s m args below meth c H locs cells slots Q (F0 m pc ls st0) :=
  va_callv hr hZ.2.2 (fun _ _ h => h) (fun _ h => h) (fun u t H1 locs1 ht hvm hw hB hz1 hk1 hS => kk u H1 locs1 hw ⟨by rw [← ht]; exact hB.1, by rw [← ht]; exact hB.2, hS⟩)
theorem z_backi {st0 : List Value} {a : Array Value} {mc ms : Nat} {dom' : Nat → Prop} {sz' : Nat} {z : Int} {Φ : zM → Prop} (hZ : Zs w dom A H0 sz G H locs) (hr : va_Run p l e R s m args below meth c H locs cells slots mc ms (F0 m pc ls st0) rest (zQi w dom' sz' z Φ A a) A)
    (kk : ∀ (C : zM) (H1 : Heap) (locs1 : List Loc), Φ C → Zs w dom' A H0 sz' C H1 locs1 → W p l e R s m args below meth c H1 locs1 (cells + mc) (slots + ms) Q (F0 m (pc + 3) ls (.int (zI z) :: rest))) : W p l e R s m args below meth c H locs cells slots Q (F0 m pc ls st0) :=
  va_calli hr hZ.2.2 (fun _ _ h => h) (fun _ h => h) (fun r u t H1 locs1 ht hvm hw hB hz1 hk1 hS => by rw [hw.1]; exact kk u H1 locs1 hw.2 ⟨by rw [← ht]; exact hB.1, by rw [← ht]; exact hB.2, hS⟩)
theorem z_backr {st0 : List Value} {a : Array Value} {mc ms : Nat} {dom' : Nat → Prop} {sz' : Nat} {z : Int} {Φ : zM → Prop} (hZ : Zs w dom A H0 sz G H locs) (hr : va_Run p l e R s m args below meth c H locs cells slots mc ms (F0 m pc ls st0) rest (zQr w dom' sz' z Φ A a) A)
    (kk : ∀ (C : zM) (H1 : Heap) (locs1 : List Loc), Φ C → Zs w dom' A H0 sz' C H1 locs1 → W p l e R s m args below meth c H1 locs1 (cells + mc) (slots + ms) Q (F0 m (pc + 3) ls (zV w z :: rest))) : W p l e R s m args below meth c H locs cells slots Q (F0 m pc ls st0) :=
  va_callq hr hZ.2.2 (fun _ _ h => h) (fun _ h => h) (fun r u t H1 locs1 ht hvm hw hB hz1 hk1 hS => by rw [hw.1, zV_rf]; exact kk u H1 locs1 hw.2 ⟨by rw [← ht]; exact hB.1, by rw [← ht]; exact hB.2, hS⟩)
theorem z_bxv {st0 : List Value} {a : Array Value} {mc ms : Nat} {dom' : Nat → Prop} {sz' : Nat} {G' : zM} (hZ : Zs w dom A H0 sz G H locs) (hr : va_Run p l e R s m args below meth c H locs cells slots mc ms (F0 m pc ls st0) rest (zQv w dom' sz' (fun C => C = G') A a) A)
    (kk : ∀ (H1 : Heap) (locs1 : List Loc), Zs w dom' A H0 sz' G' H1 locs1 → W p l e R s m args below meth c H1 locs1 (cells + mc) (slots + ms) Q (F0 m (pc + 3) ls rest)) : W p l e R s m args below meth c H locs cells slots Q (F0 m pc ls st0) :=
  z_backv hZ hr (fun C H1 locs1 h hZ => by subst h; exact kk H1 locs1 hZ)
theorem z_bxi {st0 : List Value} {a : Array Value} {mc ms : Nat} {dom' : Nat → Prop} {sz' : Nat} {z : Int} {G' : zM} (hZ : Zs w dom A H0 sz G H locs) (hr : va_Run p l e R s m args below meth c H locs cells slots mc ms (F0 m pc ls st0) rest (zQi w dom' sz' z (fun C => C = G') A a) A)
    (kk : ∀ (H1 : Heap) (locs1 : List Loc), Zs w dom' A H0 sz' G' H1 locs1 → W p l e R s m args below meth c H1 locs1 (cells + mc) (slots + ms) Q (F0 m (pc + 3) ls (.int (zI z) :: rest))) : W p l e R s m args below meth c H locs cells slots Q (F0 m pc ls st0) :=
  z_backi hZ hr (fun C H1 locs1 h hZ => by subst h; exact kk H1 locs1 hZ)
theorem z_bxr {st0 : List Value} {a : Array Value} {mc ms : Nat} {dom' : Nat → Prop} {sz' : Nat} {z : Int} {G' : zM} (hZ : Zs w dom A H0 sz G H locs) (hr : va_Run p l e R s m args below meth c H locs cells slots mc ms (F0 m pc ls st0) rest (zQr w dom' sz' z (fun C => C = G') A a) A)
    (kk : ∀ (H1 : Heap) (locs1 : List Loc), Zs w dom' A H0 sz' G' H1 locs1 → W p l e R s m args below meth c H1 locs1 (cells + mc) (slots + ms) Q (F0 m (pc + 3) ls (zV w z :: rest))) : W p l e R s m args below meth c H locs cells slots Q (F0 m pc ls st0) :=
  z_backr hZ hr (fun C H1 locs1 h hZ => by subst h; exact kk H1 locs1 hZ)
theorem zB_eq0 {P : Prop} [Decidable P] : zI (if P then 1 else 0) = 0 ↔ ¬ P := by
  by_cases h : P
  · rw [if_pos h]
    constructor
    · intro q; exact absurd q (by decide)
    · intro q; exact absurd h q
  · rw [if_neg h]
    exact ⟨fun _ => h, fun _ => rfl⟩
theorem z_ifB_eq (F : CallFix p m c cc nL s args Ts own) {P : Prop} [Decidable P] {off : Int} {tgt : Nat} (hdg : decode cc pc = .ok (.ifCond .eq off, 3)) (ht : (pc : Int) + off = (tgt : Int)) (kt : ¬ P → W p l e R s m args below meth c H locs cells slots Q (F0 m tgt ls rest)) (kf : P → W p l e R s m args below meth c H locs cells slots Q (F0 m (pc + 3) ls rest)) : W p l e R s m args below meth c H locs cells slots Q (F0 m pc ls (.int (zI (bI P)) :: rest)) :=
  lv_if_eq F.1 F.2.1 hdg ht (fun h => kt (zB_eq0.mp h)) (fun h => kf (Classical.byContradiction fun q => h (zB_eq0.mpr q)))
theorem z_ifB_ne (F : CallFix p m c cc nL s args Ts own) {P : Prop} [Decidable P] {off : Int} {tgt : Nat} (hdg : decode cc pc = .ok (.ifCond .ne off, 3)) (ht : (pc : Int) + off = (tgt : Int)) (kt : P → W p l e R s m args below meth c H locs cells slots Q (F0 m tgt ls rest)) (kf : ¬ P → W p l e R s m args below meth c H locs cells slots Q (F0 m (pc + 3) ls rest)) : W p l e R s m args below meth c H locs cells slots Q (F0 m pc ls (.int (zI (bI P)) :: rest)) :=
  lv_if_ne F.1 F.2.1 hdg ht (fun h => kt (Classical.byContradiction fun q => h (zB_eq0.mpr q))) (fun h => kf (zB_eq0.mp h))
theorem z_topI {a b : Int} (h : a = b) (k : W p l e R s m args below meth c H locs cells slots Q (F0 m pc ls (.int (zI b) :: rest))) : W p l e R s m args below meth c H locs cells slots Q (F0 m pc ls (.int (zI a) :: rest)) := h ▸ k
end ZR
