/-! ===== the whole object as made; the reference as made ===== -/
section ZY
variable {p : Program} {l : Launch} {e : Env} {R : Room} {s : State} {m : MethodId} {args : Array Value} {below : List Frame} {meth : Method} {c : Code} {H : Heap} {locs : List Loc} {cells slots : Nat} {Q : State → Prop}
variable {cc : ByteArray} {nL : Nat} {Ts : List Cond} {own : String} {pc : Nat} {ls : Array Slot} {rest : List Value}
variable {w : zW} {A : Nat → Prop} {H0 : Heap} {n : Nat} {X : zX}
theorem x_aastS (F : CallFix p m c cc nL s args Ts own) (hK : zK7 w s) (hZ : Xs w A H0 n X H locs) {i j : Nat} (hA : A (w.2.1 + i)) {f : Nat → Option Nat} {fs : List Value} (ha : X i = some (.inl (w.2.2.2.2.2, 7, .inr (.inr (.inr (.inr f)))))) (hv : X j = some (.inr (6, fs))) {z : Int} (h0 : 0 ≤ z) (h1 : z < 7) (hdg : decode cc pc = .ok (.aastore, 1))
    (kk : ∀ (H1 : Heap) (locs1 : List Loc), Xs w A H0 n (xu X i (.inl (w.2.2.2.2.2, 7, .inr (.inr (.inr (.inr (fun q => if q = z.toNat then some (w.2.1 + j) else f q))))))) H1 locs1 → W p l e R s m args below meth c H1 locs1 cells slots Q (F0 m (pc + 1) ls rest)) : W p l e R s m args below meth c H locs cells slots Q (F0 m pc ls (.ref (w.2.1 + j) :: .int (zI z) :: .ref (w.2.1 + i) :: rest)) := by
  have h := hZ.2.1 i _ ha
  have hv := hZ.2.1 j _ hv
  have hz := zI_in (n := 7) h0 h1 (by decide)
  have hlt : (zI z).toNatClampNeg < 7 := Nat.not_le.mp fun q => hz (Or.inr q)
  have hn0 : ¬ zI z < 0 := fun q => hz (Or.inl q)
  obtain ⟨r', hr', cellV, g1, g2, g3, -⟩ := hv
  have hc : vwCl[6]? = some (RX6, TX6, 15) := rfl
  have hcls := (hK.1.1.1 6 _ hc).2
  obtain ⟨kA, comp, k1, k2, k3, -⟩ := (hK.1.1.2 3 _ rfl).2
  have hcomp : comp = w.1.1 6 := Option.some.inj (k3.symm.trans hcls.1)
  subst hcomp
  obtain ⟨kC, hkC, -⟩ := hcls.2
  refine W.aast F.1 F.2.1 h (fun q h => by cases h) (fun h => by cases h) k1 k2 rfl hkC ⟨hn0, by show _ < (arrV _ _ _).slots.size; rw [arrV_size]; exact hlt⟩ g1 (fun q h => by rw [g3] at h; cases h) (by rw [g2]; exact hkC) (by rw [g2]; exact va_assign hcls) rfl rfl hdg fun H1 e zz oq => ?_
  refine kk H1 _ (Xs_set (k := (zI z).toNatClampNeg) hZ hA zz oq ?_)
  show H1[w.2.1 + i]? = some (vp_cell _ _)
  rw [e, vp_cell_q, vp_cell_q, arrV_store, zI_clamp h0 (by omega)]
  congr 2
  funext q
  by_cases hq : q = z.toNat
  · subst hq
    simp [updV, va_rf]
  · simp [updV, hq]
theorem Xs_sub {Y : zX} (hZ : Xs w A H0 n X H locs) (h : ∀ j e, Y j = some e → X j = some e) : Xs w A H0 n Y H locs := ⟨hZ.1, fun j e hj => hZ.2.1 j e (h j e hj), hZ.2.2⟩
theorem Xs_zs {b : Nat} {G : zM} (hZ : Xs w A H0 n (xz w 0 b G) H locs) (hG : zRng G) : Zs w (fun i => i < b) A H0 (w.2.1 + n) G H locs := Xs_Zs hZ hG (fun i hi => if_pos ⟨Nat.zero_le _, hi⟩)
theorem Zs_xs {b : Nat} {G : zM} (hZ : Zs w (fun i => i < b) A H0 (w.2.1 + n) G H locs) : Xs w A H0 n (xz w 0 b G) H locs := by
  refine ⟨hZ.1, fun i e hi => ?_, hZ.2.2⟩
  unfold xz at hi
  by_cases q : 0 ≤ i ∧ i < b
  · rw [if_pos q] at hi; cases hi; exact hZ.2.1.2 i q.2
  · rw [if_neg q] at hi; cases hi
end ZY
def LG (i : Nat) : zM := fun q k => if q < 8 then (if q = 1 ∧ k = 0 then 4 else if q = 3 ∨ q = 4 ∨ q = 5 then -1 else if q = 7 then (if 0 ≤ k ∧ k < (i : Int) ∧ k < 7 then 8 + 8 * k else -1) else 0) else if q < 64 then cClr (zS0 ((q - 8) / 8)) ((q - 8) / 8) q k else 0
theorem zRng_fill {G : zM} (h : zRng G) (c : Nat) (a : Int) (n : Nat) {v : Int} (hv : -2147483648 ≤ v ∧ v < 2147483648) : zRng (fillM G c a n v) := by
  intro i k
  unfold fillM
  split
  · exact hv
  · exact h i k
theorem zRng_cClr {G : zM} (h : zRng G) (j : Nat) : zRng (cClr G j) := by
  unfold cClr cClrH cEnter cMark cChClr
  refine zRng_up (zRng_up (zRng_up (zRng_up (zRng_up ?_ _ _ (by decide)) _ _ (by decide)) _ _ (by decide)) _ _ (by decide)) _ _ (by decide)
  refine zRng_fill ?_ _ _ _ (by decide)
  refine zRng_up (zRng_up (zRng_up (zRng_up (zRng_up ?_ _ _ (by decide)) _ _ (by decide)) _ _ (by decide)) _ _ (by decide)) _ _ (by decide)
  refine zRng_fill (zRng_fill (zRng_fill (zRng_up (zRng_up (zRng_up h _ _ (by decide)) _ _ (by decide)) _ _ (by decide)) _ _ _ (by decide)) _ _ _ (by decide)) _ _ _ (by decide)
theorem LG_rng (i : Nat) : zRng (LG i) := by
  intro q k
  unfold LG
  split
  · split
    · omega
    · split
      · omega
      · split
        · split <;> omega
        · omega
  · split
    · exact zRng_cClr (zS0_rng (by omega)) _ q k
    · omega
theorem LG_seat (i j q : Nat) (hj : j < 7) (hq : 8 + 8 * j ≤ q ∧ q < 8 + 8 * j + 8) : LG i q = cClr (zS0 j) j q := by
  funext k
  unfold LG
  rw [if_neg (by omega), if_pos (by omega), show (q - 8) / 8 = j by omega]
theorem LG_same (i : Nat) {q : Nat} (hq : q ≠ 7) : LG (i + 1) q = LG i q := by
  funext k
  unfold LG
  rw [if_neg (c := q = 7) hq, if_neg (c := q = 7) hq]
theorem LG_0 (w : zW) : ∀ j : Nat, j < 8 → (j = 0 → (.inr (7, [.ref (w.2.1 + 1), .ref (w.2.1 + 2), .ref (w.2.1 + 6), .ref (w.2.1 + 7), .int 0, .int 0]) : va_E) = zE w j (LG 0 j)) ∧ (j = 1 → (.inr (1, [.int (zI 4)]) : va_E) = zE w j (LG 0 j)) ∧ (j = 2 → (.inr (4, [.ref (w.2.1 + 3), .ref (w.2.1 + 4), .ref (w.2.1 + 5), .int (zI 0)]) : va_E) = zE w j (LG 0 j)) ∧ (j = 6 → (.inr (5, [.ref (w.2.1 + 1), .ref (w.2.1 + 2)]) : va_E) = zE w j (LG 0 j)) := by
  intro j hj
  refine ⟨fun h => ?_, fun h => ?_, fun h => ?_, fun h => ?_⟩ <;> subst h <;> rfl
theorem LG_a (i q : Nat) (hq : q = 3 ∨ q = 4 ∨ q = 5) (w : zW) : (fun j : Nat => zO w (LG i q (j : Int))) = fun _ => none := by
  funext j
  unfold LG
  rw [if_pos (by omega), if_neg (by omega), if_pos hq]
  rfl
theorem LG_t0 (w : zW) : (fun j : Nat => zO w (LG 0 7 (j : Int))) = fun _ => none := by
  funext j
  unfold LG
  rw [if_pos (by decide), if_neg (by omega), if_neg (by omega), if_pos rfl, if_neg (by omega)]
  rfl
theorem LG7 (i : Nat) (k : Int) : LG i 7 k = if 0 ≤ k ∧ k < (i : Int) ∧ k < 7 then 8 + 8 * k else -1 := by
  unfold LG
  rw [if_pos (by decide), if_neg (by omega), if_neg (by omega), if_pos rfl]
theorem LG_tS (w : zW) {i : Nat} (hi : i < 7) : (fun q : Nat => if q = ((i : Nat) : Int).toNat then some (w.2.1 + (8 + 8 * i)) else zO w (LG i 7 (q : Int))) = fun q : Nat => zO w (LG (i + 1) 7 (q : Int)) := by
  funext q
  rw [LG7, LG7]
  by_cases h : q = i
  · subst h
    rw [if_pos (by omega), if_pos (by omega)]
    unfold zO
    rw [if_neg (by omega)]
    congr 1
  · rw [if_neg (by omega)]
    by_cases h2 : q < i
    · rw [if_pos (by omega), if_pos (by omega)]
    · rw [if_neg (by omega), if_neg (by omega)]
theorem up_same (G : zM) {i : Nat} {k v : Int} (h : G i k = v) : up G i k v = G := by
  funext a b
  unfold up
  by_cases q : a = i ∧ b = k
  · rw [if_pos q, q.1, q.2]; exact h.symm
  · rw [if_neg q]
theorem LG_u (i : Nat) : up (up (LG i) 0 4 0) 0 5 0 = LG i := by
  have h : ∀ k, LG i 0 k = 0 := fun k => rfl
  rw [up_same (LG i) (h 4), up_same (LG i) (h 5)]
/-- the reference -/
def zR0 : zM := fun i k => if i = 64 ∧ k = 0 then 4 else 0
theorem zR0_rng : zRng zR0 := by
  intro i k
  unfold zR0
  split <;> omega
def X00 : zM := anewM zR0
theorem X00_IB : IB X00 := IB_anew (by decide) (by decide)
theorem zR0_f (w : zW) (q : Nat) (hq : q ≠ 64) : (fun j : Nat => zI (zR0 q (j : Int))) = fun _ => (0 : Int32) := by
  funext j
  unfold zR0
  rw [if_neg (fun h => hq h.1)]
  rfl
theorem zR0_0 (w : zW) : (.inr (8, [.int (zI 4), .int 0, .int 0, .ref (w.2.1 + 65), .ref (w.2.1 + 66), .ref (w.2.1 + 67), .ref (w.2.1 + 68), .int 0, .ref (w.2.1 + 69), .ref (w.2.1 + 70)]) : va_E) = zE w 64 (zR0 64) := rfl
theorem zR0_i (w : zW) (q N : Nat) (hs : shp q = (9, N)) (hq : q ≠ 64) : (.inl (w.2.2.1, N, .inl (fun _ => 0)) : va_E) = zE w q (zR0 q) := by
  rw [zE_of hs, zC_arr.1, zR0_f w q hq]
theorem zR0_z (w : zW) (q N : Nat) (hs : shp q = (10, N)) (hq : q ≠ 64) : (.inl (w.2.2.2.1, N, .inl (fun _ => 0)) : va_E) = zE w q (zR0 q) := by
  rw [zE_of hs, zC_arr.2.1, zR0_f w q hq]
theorem a64 (w : zW) : ∀ i, (64 ≤ i ∧ i < 71) → aN w 64 65 (w.2.1 + i) := fun i h => by
  unfold aN
  omega
theorem LG_al (w : zW) (i q N : Nat) (hq : q = 3 ∨ q = 4 ∨ q = 5) (hs : shp q = (11, N)) : (.inl (w.2.2.2.2.1, N, .inr (.inr (.inr (.inr (fun _ => none))))) : va_E) = zE w q (LG i q) := by
  rw [zE_of hs, zC_arr.2.2.1, LG_a i q hq]
theorem LG_tl (w : zW) : (.inl (w.2.2.2.2.2, 7, .inr (.inr (.inr (.inr (fun _ => none))))) : va_E) = zE w 7 (LG 0 7) := by
  rw [zE_of (show shp 7 = (12, 7) from rfl), zC_arr.2.2.2, LG_t0]
theorem LG_tt (w : zW) (i : Nat) : zE w 7 (LG i 7) = .inl (w.2.2.2.2.2, 7, .inr (.inr (.inr (.inr (fun q : Nat => zO w (LG i 7 (q : Int))))))) := by
  rw [zE_of (show shp 7 = (12, 7) from rfl), zC_arr.2.2.2]
/-- one more seat stands in the table -/
theorem LG_step (w : zW) {i : Nat} (hi : i < 7) {fs : List Value} {X' : zX} (h : X' = xu (xj (xu (xz w 0 (8 + 8 * i) (LG i)) (8 + 8 * i) (.inr (6, fs))) (xz w (8 + 8 * i) (8 + 8 * i + 8) (cClr (zS0 i) i))) 7 (.inl (w.2.2.2.2.2, 7, .inr (.inr (.inr (.inr (fun q : Nat => if q = ((i : Nat) : Int).toNat then some (w.2.1 + (8 + 8 * i)) else zO w (LG i 7 (q : Int))))))))) :
    ∀ j e, xz w 0 (8 + 8 * (i + 1)) (LG (i + 1)) j = some e → X' j = some e := by
  intro j e hj
  unfold xz at hj
  by_cases q : 0 ≤ j ∧ j < 8 + 8 * (i + 1)
  · rw [if_pos q] at hj
    cases hj
    rw [h]
    by_cases q7 : j = 7
    · rw [q7, xu_at, LG_tt, LG_tS w hi]
    · rw [xu_ne _ _ q7]
      by_cases q8 : 8 + 8 * i ≤ j
      · refine xj_y ?_
        unfold xz
        rw [if_pos (by omega), LG_seat (i + 1) i j hi (by omega)]
      · refine xj_x ?_ ?_
        · unfold xz
          rw [if_neg (by omega)]
        · rw [xu_ne _ _ (by omega)]
          unfold xz
          rw [if_pos (by omega), LG_same i q7]
  · rw [if_neg q] at hj
    cases hj
