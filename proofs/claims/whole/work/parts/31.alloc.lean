/-! ===== a letter made; a letter sent ===== -/
def dC (u : Nat) : Nat → Prop := fun i => i < 64 ∨ (71 ≤ i ∧ i < 71 + u)
theorem dC_s {u i : Nat} (h : i < 64) : dC u i := Or.inl h
theorem dC_l {u i : Nat} (h : 71 ≤ i ∧ i < 71 + u) : dC u i := Or.inr h
theorem dC_A {w : zW} {A : Nat → Prop} {u : Nat} (hA : ∀ i, i < 64 ∨ 71 ≤ i → A (w.2.1 + i)) : ∀ i, dC u i → A (w.2.1 + i) := fun i h => hA i (h.elim Or.inl (fun q => Or.inr q.1))
def mU (u : Nat) (X : zM) : Nat := max u (X 64 7).toNat
theorem mU_c (u : Nat) (X : zM) : (mU u X = u ∧ X 64 7 ≤ (u : Int)) ∨ ((mU u X : Int) = X 64 7 ∧ (u : Int) ≤ X 64 7) := by
  unfold mU
  rcases Nat.le_total u (X 64 7).toNat with h | h
  · rw [Nat.max_eq_right h]; omega
  · rw [Nat.max_eq_left h]; omega
def dfl (G : zM) (i : Nat) : zM := fun i' k => if i' = i then (if k = 7 then -1 else 0) else G i' k
theorem dfl_ne (G : zM) (i : Nat) {i' : Nat} (h : i' ≠ i) : dfl G i i' = G i' := by
  funext k
  unfold dfl
  rw [if_neg h]
theorem zRng_dfl {G : zM} (h : zRng G) (i : Nat) : zRng (dfl G i) := by
  intro i' k
  unfold dfl
  split
  · split <;> omega
  · exact h i' k
section ZN
variable {p : Program} {l : Launch} {e : Env} {R : Room} {s : State} {m : MethodId} {args : Array Value} {below : List Frame} {meth : Method} {c : Code} {H : Heap} {locs : List Loc} {cells slots : Nat} {Q : State → Prop}
variable {cc : ByteArray} {nL : Nat} {Ts : List Cond} {own : String} {pc : Nat} {ls : Array Slot} {rest : List Value}
variable {w : zW} {dom dom' : Nat → Prop} {A : Nat → Prop} {H0 : Heap} {sz : Nat} {G : zM}
theorem Zs_push (hZ : Zs w dom A H0 sz G H locs) {i : Nat} {G' : zM} {H1 : Heap} (hsz : sz = w.2.1 + i) (hG : zRng G') (hn : ¬ dom i) (ho : ∀ i', i' ≠ i → G' i' = G i') (hd : ∀ j, dom' j → j = i ∨ dom j) (z : H1.size = H.size + 1) (o1 : ∀ q, q < H.size → H1[q]? = H[q]?) (he : va_at w.1 vwCl (w.2.1 + i, zE w i (G' i)) H1) : Zs w dom' A H0 (sz + 1) G' H1 locs := by
  obtain ⟨h1, h2, h3⟩ := hZ
  refine ⟨by rw [z, h1], ⟨hG, fun j hj => ?_⟩, ⟨Nat.le_trans h3.1 (by omega), fun x a b => (o1 x (Nat.lt_of_lt_of_le a h3.1)).trans (h3.2.1 x a b), h3.2.2⟩⟩
  by_cases e : j = i
  · rw [e]; exact he
  · have hj := (hd j hj).resolve_left e
    rw [ho j e]
    exact (h2.2 j hj).kept (o1 _ (h2.2 j hj).lt)
theorem z_newL (F : CallFix p m c cc nL s args Ts own) (hK : zK w s) (hZ : Zs w dom A H0 sz G H locs) {index i : Nat} (hsh : shp i = (2, 0)) (hsz : sz = w.2.1 + i) (hn : ¬ dom i) (hd : ∀ j, dom' j → j = i ∨ dom j) (hcl : Cond.classLink own index RX2 ∈ Ts) (hins : Cond.instantiable RX2 8 ∈ Ts) (hini : Cond.initialized RX2 ∈ Ts) (hin : ∀ v ∈ u_ws RX2 TX2 8, v ∈ Ts) (hcells : cells + 1 ≤ R.cells) (hslots : slots + 8 ≤ R.slots) (hdg : decode cc pc = .ok (.new index, 3))
    (kk : ∀ H1 : Heap, Zs w dom' A H0 (sz + 1) (dfl G i) H1 locs → W p l e R s m args below meth c H1 locs (cells + 1) (slots + 8) Q (F0 m (pc + 3) ls (.ref (w.2.1 + i) :: rest))) : W p l e R s m args below meth c H locs cells slots Q (F0 m pc ls rest) := by
  have hc : vwCl[2]? = some (RX2, TX2, 8) := rfl
  have hKn := hK.1.1 2 _ hc
  refine W.newcK F.1 F.2.1 F.2.2.2.1 (F.2.2.2.2 _ hcl) (F.2.2.2.2 _ hins) (F.2.2.2.2 _ hini) rfl hdg hcells hslots hKn.2.1 (hZ.1.trans hsz) fun H1 kC hkC e1 z1 o1 => ?_
  have hs := hZ.1
  refine kk H1 (Zs_push hZ hsz (zRng_dfl hZ.2.1.1 i) hn (fun i' h => dfl_ne G i h) hd (by omega) (fun q h => o1 q (by omega)) ?_)
  rw [zE_of hsh]
  have e : zC w 2 0 i (dfl G i i) = .inr (2, zFs w 2 i (dfl G i i)) := rfl
  rw [e]
  refine ⟨_, hc, (u_born tyX2 F.2.2.2.2 hin hKn hkC e1 tyX2_ok).to ?_⟩
  intro j hj
  have h7 : zV w (dfl G i i 7) = .null := by
    unfold dfl
    rw [if_pos rfl, if_pos rfl]
    exact zV_m1 w
  have h0 : ∀ k : Int, k ≠ 7 → dfl G i i k = 0 := fun k hk => by
    unfold dfl
    rw [if_pos rfl, if_neg hk]
  unfold zFs
  rw [h7, h0 0 (by decide), h0 1 (by decide), h0 2 (by decide), h0 3 (by decide), h0 4 (by decide), h0 5 (by decide), h0 6 (by decide)]
  rcases (show j = 0 ∨ j = 1 ∨ j = 2 ∨ j = 3 ∨ j = 4 ∨ j = 5 ∨ j = 6 ∨ j = 7 by omega) with rfl | rfl | rfl | rfl | rfl | rfl | rfl | rfl <;> rfl
end ZN
theorem lsF_neg {X : zM} {k : Int} : ∀ {n : Nat}, lsF X k n < 0 → ∀ l : Nat, l < n → slotL X l ≠ k
  | 0, _, l, h => by omega
  | n + 1, h, l, hl => by
    unfold lsF at h
    by_cases e : slotL X n = k
    · rw [if_pos e] at h; omega
    · rw [if_neg e] at h
      by_cases z : l = n
      · rw [z]; exact e
      · exact lsF_neg h l (by omega)
theorem lsF_rng {X : zM} {k : Int} : ∀ {n : Nat}, lsF X k n = -1 ∨ ∃ q : Nat, lsF X k n = ((71 + q : Nat) : Int) ∧ q < n ∧ slotL X q = k ∧ ∀ l : Nat, q < l → l < n → slotL X l ≠ k
  | 0 => Or.inl rfl
  | n + 1 => by
    unfold lsF
    by_cases e : slotL X n = k
    · rw [if_pos e]; exact Or.inr ⟨n, by omega, by omega, e, fun l a b => by omega⟩
    · rw [if_neg e]
      rcases lsF_rng (X := X) (k := k) (n := n) with h | ⟨q, h1, h2, h3, h4⟩
      · exact Or.inl h
      · refine Or.inr ⟨q, h1, by omega, h3, fun l a b => ?_⟩
        by_cases z : l = n
        · rw [z]; exact e
        · exact h4 l a (by omega)
theorem lsF_at {X : zM} {k : Int} {q : Nat} (h : slotL X q = k) : ∀ {n : Nat}, q < n → (∀ l : Nat, q < l → l < n → slotL X l ≠ k) → lsF X k n = 71 + (q : Int)
  | 0, a, _ => by omega
  | n + 1, a, hn => by
    unfold lsF
    by_cases e : q = n
    · rw [if_pos (by rw [← e]; exact h), e]
    · rw [if_neg (hn n (by omega) (by omega))]
      exact lsF_at h (by omega) (fun l a b => hn l a (by omega))
theorem lsF_congr {X X' : zM} {k : Int} : ∀ {n : Nat}, (∀ l : Nat, l < n → slotL X' l = slotL X l) → lsF X' k n = lsF X k n
  | 0, _ => rfl
  | n + 1, h => by unfold lsF; rw [h n (by omega), lsF_congr (n := n) (fun l a => h l (by omega))]
/-- what nx is: a first one, or none -/
theorem nx_eq {X : zM} {k : Int} {i : Nat} {z : Int} (h : (z = -1 ∧ ∀ l : Nat, i ≤ l → (l : Int) < X 64 7 → slotL X l ≠ k) ∨ ∃ q : Nat, z = ((71 + q : Nat) : Int) ∧ i ≤ q ∧ (q : Int) < X 64 7 ∧ slotL X q = k ∧ ∀ l : Nat, i ≤ l → l < q → slotL X l ≠ k) : nx X k i = z := by
  by_cases e : nx X k i < 0
  · have hn := nx_neg e
    rcases h with ⟨h1, h2⟩ | ⟨q, h1, h2, h3, h4, h5⟩
    · rw [h1]
      unfold nx nxF at e ⊢
      split at e
      · omega
      · rfl
    · exact absurd h4 (hn q h2 h3)
  · obtain ⟨q, a1, a2, a3, a4, a5⟩ := nx_pos (X := X) (k := k) (i := i) (by omega)
    rcases h with ⟨h1, h2⟩ | ⟨q', h1, h2, h3, h4, h5⟩
    · exact absurd a4 (h2 q a2 a3)
    · rw [a1, h1]
      by_cases z1 : q < q'
      · exact absurd a4 (h5 q a2 z1)
      · by_cases z2 : q' < q
        · exact absurd h4 (a5 q' h2 z2)
        · rw [show q = q' by omega]
/-- the memory's letters after one is sent -/
def SendS (C C' : zM) (u u' L : Nat) (k x kd h r v vr ca : Int) (ls : Int) : Prop :=
  C' 2 3 = (L : Int) + 1 ∧ (∀ j : Nat, j < 400 → C' 3 (j : Int) = if j < u' then 71 + (j : Int) else -1) ∧
  (∀ k' : Int, 0 ≤ k' → k' < 180 → C' 4 k' = (if k' = k ∧ ls < 0 then 71 + (L : Int) else C 4 k') ∧ C' 5 k' = if k' = k then 71 + (L : Int) else C 5 k') ∧
  (C' (71 + L) 0 = x ∧ C' (71 + L) 1 = kd ∧ C' (71 + L) 2 = h ∧ C' (71 + L) 3 = r ∧ C' (71 + L) 4 = v ∧ C' (71 + L) 5 = vr ∧ C' (71 + L) 6 = ca ∧ C' (71 + L) 7 = -1) ∧
  ∀ l : Nat, l < L → (∀ q : Int, 0 ≤ q → q < 7 → C' (71 + l) q = C (71 + l) q) ∧ C' (71 + l) 7 = if ls = 71 + (l : Int) then 71 + (L : Int) else C (71 + l) 7
theorem PostS_send {C C' X : zM} {u u' : Nat} {x kd h r v vr own ca : Int} (hS : PostS C X u) (hI : Inv X) (hf : X 64 7 ≠ 400) (hx : 0 ≤ x ∧ x < 7) (hk : 0 ≤ kd ∧ kd ≤ 2) (hh : 0 ≤ h ∧ h ≤ 5) (hr : 0 ≤ r ∧ r ≤ 9) (hca : ca = msk (fun t => decide (own ≠ 0 ∧ (t : Int) = x)) 7) (hu : (u' = u ∧ X 64 7 < (u : Int)) ∨ (u' = u + 1 ∧ X 64 7 = (u : Int)))
    (hC : SendS C C' u u' (X 64 7).toNat ((kd * 6 + h) * 10 + r) x kd h r v vr ca (lsF X ((kd * 6 + h) * 10 + r) (X 64 7).toNat)) : PostS C' (sendsM X x kd h r v vr own) u' := by
  obtain ⟨s1, s2, s3, s4, s5⟩ := hS
  obtain ⟨t1, t2, t3, t4, t5⟩ := hC
  have hL := hI.2.2.2.1
  generalize hn : (X 64 7).toNat = L at *
  have hLL : X 64 7 = (L : Int) := by omega
  generalize hkk : (kd * 6 + h) * 10 + r = k at *
  have e7 : sendsM X x kd h r v vr own 64 7 = (L : Int) + 1 := by rw [sendsM_64, if_pos rfl, if_neg hf, hLL]
  have old : ∀ l : Nat, l < L → ∀ q : Int, 0 ≤ q → q < 6 → sendsM X x kd h r v vr own 69 (6 * (l : Int) + q) = X 69 (6 * (l : Int) + q) := fun l hl q a b => by
    rw [sendsM_69 hf, hLL, if_neg (by omega), if_neg (by omega), if_neg (by omega), if_neg (by omega), if_neg (by omega), if_neg (by omega)]
  have new : ∀ q : Int, 0 ≤ q → q < 6 → sendsM X x kd h r v vr own 69 (6 * (L : Int) + q) = if q = 0 then x else if q = 1 then kd else if q = 2 then h else if q = 3 then r else if q = 4 then v else vr := fun q a b => by
    rw [sendsM_69 hf, hLL]
    rcases (show q = 0 ∨ q = 1 ∨ q = 2 ∨ q = 3 ∨ q = 4 ∨ q = 5 by omega) with rfl | rfl | rfl | rfl | rfl | rfl <;> simp only [q6, Int.reduceEq, ↓reduceIte]
  have so : ∀ l : Nat, l < L → slotL (sendsM X x kd h r v vr own) l = slotL X l := fun l hl => by
    unfold slotL
    rw [old l hl 1 (by decide) (by decide), old l hl 2 (by decide) (by decide), old l hl 3 (by decide) (by decide)]
  have sn : slotL (sendsM X x kd h r v vr own) L = k := by
    unfold slotL
    rw [new 1 (by decide) (by decide), new 2 (by decide) (by decide), new 3 (by decide) (by decide), ← hkk]
    simp only [Int.reduceEq, ↓reduceIte]
  have hkr : 0 ≤ k ∧ k < 180 := by omega
  have nxe : ∀ (k' : Int) (i : Nat), i ≤ L → nx (sendsM X x kd h r v vr own) k' i = if nx X k' i < 0 then (if k' = k then 71 + (L : Int) else -1) else nx X k' i := fun k' i hi => by
    apply nx_eq
    rw [e7]
    by_cases z : nx X k' i < 0
    · have hn := nx_neg z
      rw [if_pos z]
      by_cases zk : k' = k
      · rw [if_pos zk]
        refine Or.inr ⟨L, by omega, hi, by omega, by rw [sn, zk], fun l a b => by rw [so l b]; exact hn l a (by omega)⟩
      · rw [if_neg zk]
        refine Or.inl ⟨rfl, fun l a b => ?_⟩
        by_cases e : l = L
        · rw [e, sn]; exact fun y => zk y.symm
        · rw [so l (by omega)]; exact hn l a (by omega)
    · obtain ⟨q, a1, a2, a3, a4, a5⟩ := nx_pos (X := X) (k := k') (i := i) (by omega)
      rw [if_neg z]
      exact Or.inr ⟨q, a1, a2, by omega, by rw [so q (by omega)]; exact a4, fun l a b => by rw [so l (by omega)]; exact a5 l a b⟩
  have lse : ∀ k' : Int, lsF (sendsM X x kd h r v vr own) k' (L + 1) = if k' = k then 71 + (L : Int) else lsF X k' L := fun k' => by
    rw [lsF, sn]
    by_cases z : k' = k
    · rw [if_pos z.symm, if_pos z]
    · rw [if_neg (fun y => z y.symm), if_neg z, lsF_congr so]
  refine ⟨by rw [t1, e7], ⟨by rw [e7]; omega, by omega⟩, t2, fun k' a b => ?_, fun l hl => ?_⟩
  · rw [(t3 k' a b).1, (t3 k' a b).2, nxe k' 0 (Nat.zero_le _), show (sendsM X x kd h r v vr own 64 7).toNat = L + 1 by rw [e7]; omega, lse, (s4 k' a b).1, (s4 k' a b).2]
    refine ⟨?_, rfl⟩
    by_cases zk : k' = k
    · rw [zk]
      rcases lsF_rng (X := X) (k := k) (n := L) with g | ⟨q, g1, g2, g3, g4⟩
      · have hz := lsF_neg (X := X) (k := k) (n := L) (by omega)
        have : nx X k 0 = -1 := nx_eq (Or.inl ⟨rfl, fun l _ b => hz l (by omega)⟩)
        rw [if_pos ⟨rfl, by omega⟩, if_pos (by omega), if_pos rfl]
      · rw [if_neg (by omega)]
        have : ¬ nx X k 0 < 0 := fun y => nx_neg y q (Nat.zero_le _) (by omega) g3
        rw [if_neg this]
    · rw [if_neg (fun y => zk y.1), if_neg zk]
      by_cases y : nx X k' 0 < 0
      · rw [if_pos y]
        unfold nx nxF at y ⊢
        split at y
        · omega
        · rfl
      · rw [if_neg y]
  · rw [e7] at hl
    by_cases e : l = L
    · subst e
      obtain ⟨r0, r1, r2, r3, r4, r5, r6, r7⟩ := t4
      refine ⟨⟨by rw [r0, new 0 (by decide) (by decide)]; rfl, by rw [r1, new 1 (by decide) (by decide)]; rfl, by rw [r2, new 2 (by decide) (by decide)]; rfl, by rw [r3, new 3 (by decide) (by decide)]; rfl, by rw [r4, new 4 (by decide) (by decide)]; rfl, by rw [r5, new 5 (by decide) (by decide)]; rfl⟩, ?_, ?_⟩
      · rw [r6, hca]
        refine msk_congr fun t ht => ?_
        unfold camP
        rw [decide_eq_decide, sendsM_70 hf, hLL, if_pos (by omega)]
        rw [show 7 * (l : Int) + (t : Int) - 7 * (l : Int) = (t : Int) by omega]
        unfold bI
        split <;> simp_all
      · rw [r7, nx_eq (Or.inl ⟨rfl, fun q a b => by rw [e7] at b; omega⟩)]
    · have hl' : l < L := by omega
      obtain ⟨⟨r0, r1, r2, r3, r4, r5⟩, r6, r7⟩ := s5 l (by omega)
      obtain ⟨u1, u2⟩ := t5 l hl'
      refine ⟨⟨by rw [u1 0 (by decide) (by decide), r0, old l hl' 0 (by decide) (by decide)], by rw [u1 1 (by decide) (by decide), r1, old l hl' 1 (by decide) (by decide)], by rw [u1 2 (by decide) (by decide), r2, old l hl' 2 (by decide) (by decide)], by rw [u1 3 (by decide) (by decide), r3, old l hl' 3 (by decide) (by decide)], by rw [u1 4 (by decide) (by decide), r4, old l hl' 4 (by decide) (by decide)], by rw [u1 5 (by decide) (by decide), r5, old l hl' 5 (by decide) (by decide)]⟩, ?_, ?_⟩
      · rw [u1 6 (by decide) (by decide), r6]
        refine msk_congr fun t ht => ?_
        unfold camP
        rw [sendsM_70 hf, hLL, if_neg (by omega)]
      · rw [u2, so l hl', nxe _ (l + 1) (by omega), r7]
        rcases lsF_rng (X := X) (k := k) (n := L) with g | ⟨q, g1, g2, g3, g4⟩
        · rw [if_neg (by omega)]
          have hz := lsF_neg (X := X) (k := k) (n := L) (by omega)
          by_cases y : nx X (slotL X l) (l + 1) < 0
          · rw [if_pos y, if_neg (hz l hl')]
            unfold nx nxF at y ⊢
            split at y
            · omega
            · rfl
          · rw [if_neg y]
        · by_cases ql : q = l
          · subst ql
            rw [if_pos (by omega), if_pos, if_pos g3]
            by_cases y : nx X (slotL X q) (q + 1) < 0
            · exact y
            · obtain ⟨q2, a1, a2, a3, a4, a5⟩ := nx_pos (X := X) (k := slotL X q) (i := q + 1) (by omega)
              exact absurd (a4.trans g3) (g4 q2 (by omega) (by omega))
          · rw [if_neg (by omega)]
            by_cases y : nx X (slotL X l) (l + 1) < 0
            · rw [if_pos y]
              have hne : slotL X l ≠ k := fun z => by
                by_cases lt : q < l
                · exact g4 l lt hl' z
                · exact nx_neg y q (by omega) (by omega) (g3.trans z.symm)
              rw [if_neg hne]
              unfold nx nxF at y ⊢
              split at y
              · omega
              · rfl
            · rw [if_neg y]
/-- the rows of a letter just written -/
def sndF (B : zM) (L : Nat) (x kd h r v vr ca : Int) : zM := up (up (up (up (up (up (up (up B (71 + L) 0 x) (71 + L) 1 kd) (71 + L) 2 h) (71 + L) 3 r) (71 + L) 4 v) (71 + L) 5 vr) (71 + L) 6 ca) (71 + L) 7 (-1)
theorem sndF_ne (B : zM) (L : Nat) (x kd h r v vr ca : Int) {i : Nat} (hi : i ≠ 71 + L) : sndF B L x kd h r v vr ca i = B i := by
  unfold sndF
  rw [up_cell _ _ _ hi, up_cell _ _ _ hi, up_cell _ _ _ hi, up_cell _ _ _ hi, up_cell _ _ _ hi, up_cell _ _ _ hi, up_cell _ _ _ hi, up_cell _ _ _ hi]
theorem sndF_at (B : zM) (L : Nat) (x kd h r v vr ca : Int) (q : Int) : sndF B L x kd h r v vr ca (71 + L) q = if q = 7 then -1 else if q = 6 then ca else if q = 5 then vr else if q = 4 then v else if q = 3 then r else if q = 2 then h else if q = 1 then kd else if q = 0 then x else B (71 + L) q := by
  unfold sndF up
  simp only [true_and]
theorem SendS_null {C B : zM} {u u' L : Nat} {k x kd h r v vr ca ls z : Int} (hz : z = (L : Int) + 1) (h3 : ∀ j : Nat, j < 400 → B 3 (j : Int) = if j < u' then 71 + (j : Int) else -1) (h4 : B 4 = C 4) (h5 : B 5 = C 5) (hl : ∀ l : Nat, l < L → B (71 + l) = C (71 + l)) (hn : ls = -1) :
    SendS C (up (up (up (sndF B L x kd h r v vr ca) 4 k ((71 + L : Nat) : Int)) 5 k ((71 + L : Nat) : Int)) 2 3 z) u u' L k x kd h r v vr ca ls := by
  refine ⟨by rw [up_self, hz], fun j hj => ?_, fun k' a b => ⟨?_, ?_⟩, ?_, fun l hl' => ⟨fun q a b => ?_, ?_⟩⟩
  · rw [up_cell _ _ _ (by omega), up_cell _ _ _ (by omega), up_cell _ _ _ (by omega), sndF_ne _ _ _ _ _ _ _ _ _ (by omega)]
    exact h3 j hj
  · rw [up_cell _ _ _ (by omega), up_cell _ _ _ (by omega), up_at]
    by_cases y : k' = k
    · simp only [y, ↓reduceIte]; rw [if_pos ⟨trivial, by omega⟩]; omega
    · simp only [y, ↓reduceIte, false_and]; rw [sndF_ne _ _ _ _ _ _ _ _ _ (by omega), h4]
  · rw [up_cell _ _ _ (by omega), up_at]
    by_cases y : k' = k
    · simp only [y, ↓reduceIte]; omega
    · simp only [y, ↓reduceIte]; rw [up_cell _ _ _ (by omega), sndF_ne _ _ _ _ _ _ _ _ _ (by omega), h5]
  · rw [up_cell _ _ _ (by omega), up_cell _ _ _ (by omega), up_cell _ _ _ (by omega)]
    simp only [sndF_at, Int.reduceEq, ↓reduceIte, and_self]
  · rw [up_cell _ _ _ (by omega), up_cell _ _ _ (by omega), up_cell _ _ _ (by omega), sndF_ne _ _ _ _ _ _ _ _ _ (by omega), hl l hl']
  · rw [up_cell _ _ _ (by omega), up_cell _ _ _ (by omega), up_cell _ _ _ (by omega), sndF_ne _ _ _ _ _ _ _ _ _ (by omega), hl l hl', if_neg (by omega)]
theorem SendS_some {C B : zM} {u u' L p : Nat} {k x kd h r v vr ca ls z : Int} (hz : z = (L : Int) + 1) (h3 : ∀ j : Nat, j < 400 → B 3 (j : Int) = if j < u' then 71 + (j : Int) else -1) (h4 : B 4 = C 4) (h5 : B 5 = C 5) (hl : ∀ l : Nat, l < L → B (71 + l) = C (71 + l)) (hp : p < L) (hn : ls = ((71 + p : Nat) : Int)) :
    SendS C (up (up (up (sndF B L x kd h r v vr ca) (71 + p) 7 ((71 + L : Nat) : Int)) 5 k ((71 + L : Nat) : Int)) 2 3 z) u u' L k x kd h r v vr ca ls := by
  refine ⟨by rw [up_self, hz], fun j hj => ?_, fun k' a b => ⟨?_, ?_⟩, ?_, fun l hl' => ⟨fun q a b => ?_, ?_⟩⟩
  · rw [up_cell _ _ _ (by omega), up_cell _ _ _ (by omega), up_cell _ _ _ (by omega), sndF_ne _ _ _ _ _ _ _ _ _ (by omega)]
    exact h3 j hj
  · rw [up_cell _ _ _ (by omega), up_cell _ _ _ (by omega), up_cell _ _ _ (by omega), sndF_ne _ _ _ _ _ _ _ _ _ (by omega), h4, if_neg (by omega)]
  · rw [up_cell _ _ _ (by omega), up_at]
    by_cases y : k' = k
    · simp only [y, ↓reduceIte]; omega
    · simp only [y, ↓reduceIte]; rw [up_cell _ _ _ (by omega), sndF_ne _ _ _ _ _ _ _ _ _ (by omega), h5]
  · rw [up_cell _ _ _ (by omega), up_cell _ _ _ (by omega), up_cell _ _ _ (by omega)]
    simp only [sndF_at, Int.reduceEq, ↓reduceIte, and_self]
  · rw [up_cell _ _ _ (by omega), up_cell _ _ _ (by omega)]
    by_cases e : l = p
    · rw [e, up_at, ← e]; simp only [show q ≠ 7 by omega, ↓reduceIte]
      rw [sndF_ne _ _ _ _ _ _ _ _ _ (by omega), hl l hl']
    · rw [up_cell _ _ _ (by omega), sndF_ne _ _ _ _ _ _ _ _ _ (by omega), hl l hl']
  · rw [up_cell _ _ _ (by omega), up_cell _ _ _ (by omega)]
    by_cases e : l = p
    · rw [e, up_self, if_pos (by omega)]; omega
    · rw [up_cell _ _ _ (by omega), sndF_ne _ _ _ _ _ _ _ _ _ (by omega), hl l hl', if_neg (by omega)]
