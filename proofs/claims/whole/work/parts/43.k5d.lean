theorem mX5_catchesUp_9 : Cond.fieldLink RX5 9 "LockedChain$Rules" "council" "LLockedChain$Council;" ∈ wsX5_catchesUp := by decide +kernel
theorem mX5_catchesUp_33 : Cond.fieldLink RX5 33 "LockedChain$Seat" "round" "I" ∈ wsX5_catchesUp := by decide +kernel
set_option maxHeartbeats 4000000 in
set_option maxRecDepth 100000 in
theorem k_X5_catchesUp (l : Launch) (w : zW) (A : Nat → Prop) (hA : ∀ i, i < 64 ∨ 71 ≤ i → A (w.2.1 + i)) (mm : Nat) (G X : zM) (hM : Sim G X mm) (hI : Inv X) (j : Nat) (hj0 : (j : Int) < X 64 0) (hh : X 67 (20 * (j : Int) + 0) ≤ 5) : Met l yX5_catchesUp wsX5_catchesUp { frames := 5, cells := (mU mm ((jumpsM X j).getD X) - mm), slots := (8 * (mU mm ((jumpsM X j).getD X) - mm)), locals := 107 } (zPre w (dC mm) (w.2.1 + (71 + mm)) G [.ref (w.2.1 + (6)), .ref (w.2.1 + (8 + 8 * j))]) (zQi w (dC (mU mm ((jumpsM X j).getD X))) (w.2.1 + (71 + mU mm ((jumpsM X j).getD X))) (bI ((jumpsM X j).isSome = true)) (fun C => Sim C ((jumpsM X j).getD X) (mU mm ((jumpsM X j).getD X))) A) ((mU mm ((jumpsM X j).getD X) - mm)) ((8 * (mU mm ((jumpsM X j).getD X) - mm))) A := by
  refine Met.ofW (cc := cX5_catchesUp) (maxL := 3) (ret := (some .boolean)) (by decide) rfl ?_
  intro p e s m args below meth c s₁ B hml hv
  obtain ⟨rfl, hsz, hP, hK⟩ := hv
  have F : CallFix p m c cX5_catchesUp 3 s _ wsX5_catchesUp RX5 := ⟨B.exec, B.bytes, hml, findClass_of_methodNamed B.named, atoms_spec (ws := wsX5_catchesUp) B.pre⟩
  have hr := B.returns
  have hlocks := B.notSynchronized
  have hZ : Zs w (dC mm) A s.heap (w.2.1 + (71 + mm)) G s.heap [] := ⟨hsz, hP, va_S.rf⟩
  have hl := lv_entry ([.ref (w.2.1 + (6)), .ref (w.2.1 + (8 + 8 * j))]) (n := 3) (Nat.le_of_ble_eq_true rfl)
  rw [lg_entry_eq]
  generalize (lg_sl ([.ref (w.2.1 + (6)), .ref (w.2.1 + (8 + 8 * j))]) ++ List.replicate (3 - (lg_sl ([.ref (w.2.1 + (6)), .ref (w.2.1 + (8 + 8 * j))])).length) Slot.unset).toArray = ls at hl ⊢
  have hl : lv_has ls 3 [(0, .ref (w.2.1 + (6))), (1, .ref (w.2.1 + (8 + 8 * j)))] := hl
  have hin5 : ∀ v ∈ u_ws RX5 TX5 2, v ∈ wsX5_catchesUp := by decide +kernel
  have hin6 : ∀ v ∈ u_ws RX6 TX6 15, v ∈ wsX5_catchesUp := by decide +kernel
  have hn := hI.1
  have hLL := hI.2.2.2.1
  have hj : j < 7 := by omega
  have hS : PostS G X mm := hM.1
  obtain ⟨hS1, hS2, hS3, hS4, hS5⟩ := hM.1
  have hC0 := hM.2.1
  have sf := Sim_f hM hj
  have sr := seat_rng hI (s := (j : Int)) (by omega)
  have hu := mU_c mm ((jumpsM X j).getD X)
  have hsn : someN X = (X 64 0 - 1) / 3 + 1 := rfl
  have hR1 := sf.2.2.2.1
  refine z_bipush F (by decide) dX5_catchesUp_0 ?_
  refine z_istore_n (lv' := [(2, .int (zI (9))), (0, .ref (w.2.1 + (6))), (1, .ref (w.2.1 + (8 + 8 * j)))]) F dX5_catchesUp_2 rfl hl (by decide) rfl (fun ls hl => ?_)
  have L_3 : ∀ (nf : Nat) (i : Nat) (r : Int), (i + 1 ≤ nf) → (i ≤ (9 - X 67 (20 * (j : Int) + 1)).toNat) → (jmpF X j i = jumpsM X j) → (r = X 67 (20 * (j : Int) + 1) + (i : Int)) →  ∀ (H : Heap) (locs : List Loc) (ls : Array Slot), Zs w (dC mm) A s.heap (w.2.1 + (71 + mm)) G H locs → lv_has ls 3 [(0, .ref (w.2.1 + (6))), (1, .ref (w.2.1 + (8 + 8 * j))), (2, .int (zI (r)))] → W p l e (headSpec wsX5_catchesUp { frames := 5, cells := (mU mm ((jumpsM X j).getD X) - mm), slots := (8 * (mU mm ((jumpsM X j).getD X) - mm)), locals := 107 }).room s m ([.ref (w.2.1 + (6)), .ref (w.2.1 + (8 + 8 * j))] : List Value).toArray below meth c H locs (0) (0) (MQ below (zQi w (dC (mU mm ((jumpsM X j).getD X))) (w.2.1 + (71 + mU mm ((jumpsM X j).getD X))) (bI ((jumpsM X j).isSome = true)) (fun C => Sim C ((jumpsM X j).getD X) (mU mm ((jumpsM X j).getD X))) A) ([.ref (w.2.1 + (6)), .ref (w.2.1 + (8 + 8 * j))] : List Value).toArray s ((mU mm ((jumpsM X j).getD X) - mm)) ((8 * (mU mm ((jumpsM X j).getD X) - mm))) A) (F0 m 3 ls []) := by
    intro nf
    induction nf with
    | zero => intro i  r  h3_0 h3_1 h3_2 h3_3; exact absurd h3_0 (by omega)
    | succ nf ih_3 =>
      intro i  r  h3_0 h3_1 h3_2 h3_3 H locs ls hZ hl
      refine z_iload_n F dX5_catchesUp_3 rfl (lv_at hl 2 rfl) ?_
      refine z_aload_n F dX5_catchesUp_4 rfl (lv_at hl 1 rfl) ?_
      refine z_get F hK hZ (8 + 8 * j) (dC_s (by omega)) (shp_seat j hj) (by decide) rfl hin6 3 (by decide) mX5_catchesUp_33 rfl rfl dX5_catchesUp_5 ?_
      have r_1 := hZ.2.1.1 (8 + 8 * j) (3)
      refine z_topI (show G (8 + 8 * j) 3 = X 67 (20 * (j : Int) + 1) from sf.2.2.2.1) ?_
      refine z_icmp_le (tgt := 44) F (by omega) (by omega) dX5_catchesUp_8 (by decide) (fun c_8 => ?_) (fun c_8 => ?_)
      · skip
        refine z_iconst F dX5_catchesUp_44 ?_
        have hno : jumpsM X j = none := by rw [← h3_2, show i = 0 by omega]; rfl
        have hst : ((jumpsM X j).getD X) = X := by rw [hno]; rfl
        have hue : mm = mU mm ((jumpsM X j).getD X) := by rw [hst, mU_self (by omega)]
        have hfin : Sim (G) ((jumpsM X j).getD X) (mU mm ((jumpsM X j).getD X)) := by rw [← hue, hst]; exact hM
        rw [hue] at hZ
        exact z_zret F hr hlocks hZ (by first | exact bI_0 (by rw [hno]; exact fun z => by cases z) | exact bI_1 (by rw [hso]; rfl)) (by omega) hfin dX5_catchesUp_45 (by omega) (by omega)
      · skip
        refine z_aload_n F dX5_catchesUp_11 rfl (lv_at hl 0 rfl) ?_
        refine z_aload_n F dX5_catchesUp_12 rfl (lv_at hl 1 rfl) ?_
        refine z_iload_n F dX5_catchesUp_13 rfl (lv_at hl 2 rfl) ?_
        refine z_bxi hZ (va_runV (As := [.ref (w.2.1 + (8 + 8 * j)), .int (zI (r))]) (rest := []) F (k_X5_writers l w (dC mm) A (dC_A hA) (w.2.1 + (71 + mm)) G X mm (fun i h => dC_s h) (fun i h => dC_l h) hM hI j hj0 hh r (by omega)) (cwV 2 F.2.2.2.2 gX5_catchesUp_X5_writers rfl rfl rfl (by decide +kernel) ⟨Nat.le_of_ble_eq_true rfl, Nat.le_of_ble_eq_true rfl⟩) (z_preV hK hZ (6) (dC_s (by omega)) rfl (by decide) rfl _) rfl rfl hl.1 rfl (lv_room (Nat.le_of_ble_eq_true rfl)) dX5_catchesUp_14 ⟨by show 0 + (0) ≤ (mU mm ((jumpsM X j).getD X) - mm); omega, by show 0 + (0) ≤ (8 * (mU mm ((jumpsM X j).getD X) - mm)); omega⟩) (fun H locs hZ => ?_)
        have hwr : 0 ≤ wM X j (X 67 (20 * (j : Int) + 0)) r (X 64 7).toNat 3 0 ∧ wM X j (X 67 (20 * (j : Int) + 0)) r (X 64 7).toNat 3 0 < 128 := msk_rng _
        refine z_bxi hZ (va_runS (As := [.int (zI (wM X j (X 67 (20 * (j : Int) + 0)) r (X 64 7).toNat 3 0))]) (rest := []) F (k_J6_bitCount_0f7a4 l w (dC mm) A (dC_A hA) (w.2.1 + (71 + mm)) G (wM X j (X 67 (20 * (j : Int) + 0)) r (X 64 7).toNat 3 0) hwr) (va_cwS 1 F.2.2.2.2 gX5_catchesUp_J6_bitCount_0f7a4 rfl rfl rfl (by decide +kernel) ⟨Nat.le_of_ble_eq_true rfl, Nat.le_of_ble_eq_true rfl⟩) (z_preS hK hZ _) rfl rfl hl.1 rfl (lv_room (Nat.le_of_ble_eq_true rfl)) dX5_catchesUp_17 ⟨by show 0 + 0 + (0) ≤ (mU mm ((jumpsM X j).getD X) - mm); omega, by show 0 + 0 + (0) ≤ (8 * (mU mm ((jumpsM X j).getD X) - mm)); omega⟩) (fun H locs hZ => ?_)
        refine z_topI (wM_jN hI (s := (j : Int)) (r := r) (by omega) (by omega)) ?_
        have hjr := jN_rng X j r
        refine z_aload_n F dX5_catchesUp_20 rfl (lv_at hl 0 rfl) ?_
        refine z_get F hK hZ (6) (dC_s (by omega)) rfl (by decide) rfl hin5 0 (by decide) mX5_catchesUp_9 rfl rfl dX5_catchesUp_21 ?_
        refine z_bxi hZ (va_runV (As := []) (rest := [.int (zI (jN X j r))]) F (k_X1_some l w (dC mm) A (dC_A hA) (w.2.1 + (71 + mm)) G (fun i h => dC_s h) (by omega)) (cwV 0 F.2.2.2.2 gX5_catchesUp_X1_some rfl rfl rfl (by decide +kernel) ⟨Nat.le_of_ble_eq_true rfl, Nat.le_of_ble_eq_true rfl⟩) (z_preV hK hZ (1) (dC_s (by omega)) rfl (by decide) rfl _) rfl rfl hl.1 rfl (lv_room (Nat.le_of_ble_eq_true rfl)) dX5_catchesUp_24 ⟨by show 0 + 0 + 0 + (0) ≤ (mU mm ((jumpsM X j).getD X) - mm); omega, by show 0 + 0 + 0 + (0) ≤ (8 * (mU mm ((jumpsM X j).getD X) - mm)); omega⟩) (fun H locs hZ => ?_)
        refine z_icmp_lt (tgt := 38) F (by omega) (by omega) dX5_catchesUp_27 (by decide) (fun c_27 => ?_) (fun c_27 => ?_)
        · skip
          refine z_iinc (k := 2) (z := r) (lv' := [(2, .int (zI (r + (-1)))), (0, .ref (w.2.1 + (6))), (1, .ref (w.2.1 + (8 + 8 * j)))]) F dX5_catchesUp_38 hl rfl (by decide) rfl (fun ls hl => ?_)
          refine lv_goto (tgt := 3) F.1 F.2.1 dX5_catchesUp_41 (by decide) ?_
          exact ih_3 (i - 1) (r + (-1)) (by omega) (by omega) (by rw [← h3_2, jmpF_S (k := i) (r := r) (by omega) h3_3, if_neg (by omega)]) (by omega) _ _ _ hZ (lv_sub hl [1, 2, 0] rfl)
        · skip
          refine z_aload_n F dX5_catchesUp_30 rfl (lv_at hl 0 rfl) ?_
          refine z_aload_n F dX5_catchesUp_31 rfl (lv_at hl 1 rfl) ?_
          refine z_iload_n F dX5_catchesUp_32 rfl (lv_at hl 2 rfl) ?_
          have hso : jumpsM X j = some (startsM X j r) := by rw [← h3_2, jmpF_S (k := i) (r := r) (by omega) h3_3, if_pos (by omega)]
          have hst : ((jumpsM X j).getD X) = (startsM X j r) := by rw [hso]; rfl
          have hue : mU mm (startsM X j r) = mU mm ((jumpsM X j).getD X) := by rw [hst]
          have huC1 := mU_c mm (startsM X j r)
          refine z_backv hZ (va_runV (As := [.ref (w.2.1 + (8 + 8 * j)), .int (zI (r))]) (rest := []) F (k_X5_start l w A hA mm G X hM hI j (by omega) (by omega) r (by omega)) (cwV 2 F.2.2.2.2 gX5_catchesUp_X5_start rfl rfl rfl (by decide +kernel) ⟨Nat.le_of_ble_eq_true rfl, Nat.le_of_ble_eq_true rfl⟩) (z_preV hK hZ (6) (dC_s (by omega)) rfl (by decide) rfl _) rfl rfl hl.1 rfl (lv_room (Nat.le_of_ble_eq_true rfl)) dX5_catchesUp_33 ⟨by show 0 + 0 + 0 + 0 + (mU mm (startsM X j r) - mm) ≤ (mU mm ((jumpsM X j).getD X) - mm); omega, by show 0 + 0 + 0 + 0 + (8 * (mU mm (startsM X j r) - mm)) ≤ (8 * (mU mm ((jumpsM X j).getD X) - mm)); omega⟩) (fun C1 H locs hC1 hZ => ?_)
          refine z_iconst F dX5_catchesUp_36 ?_
          have hfin : Sim (C1) ((jumpsM X j).getD X) (mU mm ((jumpsM X j).getD X)) := by rw [hst]; exact hC1
          rw [hue] at hZ
          exact z_zret F hr hlocks hZ (by first | exact bI_0 (by rw [hno]; exact fun z => by cases z) | exact bI_1 (by rw [hso]; rfl)) (by omega) hfin dX5_catchesUp_37 (by omega) (by omega)
  exact L_3 ((9 - X 67 (20 * (j : Int) + 1)).toNat + 1) ((9 - X 67 (20 * (j : Int) + 1)).toNat) 9 (by omega) (by omega) rfl (by omega) _ _ _ hZ (lv_sub hl [1, 2, 0] rfl)

theorem mX5_decides_123 : Cond.fieldLink RX5 123 "LockedChain$Letter" "value" "I" ∈ wsX5_decides := by decide +kernel
set_option maxHeartbeats 4000000 in
set_option maxRecDepth 100000 in
theorem k_X5_decides (l : Launch) (w : zW) (A : Nat → Prop) (hA : ∀ i, i < 64 ∨ 71 ≤ i → A (w.2.1 + i)) (mm : Nat) (G X : zM) (hM : Sim G X mm) (hI : Inv X) (j : Nat) (hj0 : (j : Int) < X 64 0) (hh : X 67 (20 * (j : Int) + 0) ≤ 5) : Met l yX5_decides wsX5_decides { frames := 5, cells := (mU mm ((decidesM X j).getD X) - mm), slots := (8 * (mU mm ((decidesM X j).getD X) - mm)), locals := 107 } (zPre w (dC mm) (w.2.1 + (71 + mm)) G [.ref (w.2.1 + (6)), .ref (w.2.1 + (8 + 8 * j))]) (zQi w (dC (mU mm ((decidesM X j).getD X))) (w.2.1 + (71 + mU mm ((decidesM X j).getD X))) (bI ((decidesM X j).isSome = true)) (fun C => Sim C ((decidesM X j).getD X) (mU mm ((decidesM X j).getD X))) A) ((mU mm ((decidesM X j).getD X) - mm)) ((8 * (mU mm ((decidesM X j).getD X) - mm))) A := by
  refine Met.ofW (cc := cX5_decides) (maxL := 4) (ret := (some .boolean)) (by decide) rfl ?_
  intro p e s m args below meth c s₁ B hml hv
  obtain ⟨rfl, hsz, hP, hK⟩ := hv
  have F : CallFix p m c cX5_decides 4 s _ wsX5_decides RX5 := ⟨B.exec, B.bytes, hml, findClass_of_methodNamed B.named, atoms_spec (ws := wsX5_decides) B.pre⟩
  have hr := B.returns
  have hlocks := B.notSynchronized
  have hZ : Zs w (dC mm) A s.heap (w.2.1 + (71 + mm)) G s.heap [] := ⟨hsz, hP, va_S.rf⟩
  have hl := lv_entry ([.ref (w.2.1 + (6)), .ref (w.2.1 + (8 + 8 * j))]) (n := 4) (Nat.le_of_ble_eq_true rfl)
  rw [lg_entry_eq]
  generalize (lg_sl ([.ref (w.2.1 + (6)), .ref (w.2.1 + (8 + 8 * j))]) ++ List.replicate (4 - (lg_sl ([.ref (w.2.1 + (6)), .ref (w.2.1 + (8 + 8 * j))])).length) Slot.unset).toArray = ls at hl ⊢
  have hl : lv_has ls 4 [(0, .ref (w.2.1 + (6))), (1, .ref (w.2.1 + (8 + 8 * j)))] := hl
  have hin2 : ∀ v ∈ u_ws RX2 TX2 8, v ∈ wsX5_decides := by decide +kernel
  have hn := hI.1
  have hLL := hI.2.2.2.1
  have hj : j < 7 := by omega
  have hS : PostS G X mm := hM.1
  obtain ⟨hS1, hS2, hS3, hS4, hS5⟩ := hM.1
  have hC0 := hM.2.1
  have sf := Sim_f hM hj
  have sr := seat_rng hI (s := (j : Int)) (by omega)
  have hu := mU_c mm ((decidesM X j).getD X)
  refine z_iconst F dX5_decides_0 ?_
  refine z_istore_n (lv' := [(2, .int (zI (0))), (0, .ref (w.2.1 + (6))), (1, .ref (w.2.1 + (8 + 8 * j)))]) F dX5_decides_1 rfl hl (by decide) rfl (fun ls hl => ?_)
  have L_2 : ∀ (nf : Nat) (i : Nat), (11 ≤ i + nf) → (i ≤ 10) → (decF X j (10 - i) i = decidesM X j) →  ∀ (H : Heap) (locs : List Loc) (ls : Array Slot), Zs w (dC mm) A s.heap (w.2.1 + (71 + mm)) G H locs → lv_has ls 4 [(0, .ref (w.2.1 + (6))), (1, .ref (w.2.1 + (8 + 8 * j))), (2, .int (zI ((i : Int))))] → W p l e (headSpec wsX5_decides { frames := 5, cells := (mU mm ((decidesM X j).getD X) - mm), slots := (8 * (mU mm ((decidesM X j).getD X) - mm)), locals := 107 }).room s m ([.ref (w.2.1 + (6)), .ref (w.2.1 + (8 + 8 * j))] : List Value).toArray below meth c H locs (0) (0) (MQ below (zQi w (dC (mU mm ((decidesM X j).getD X))) (w.2.1 + (71 + mU mm ((decidesM X j).getD X))) (bI ((decidesM X j).isSome = true)) (fun C => Sim C ((decidesM X j).getD X) (mU mm ((decidesM X j).getD X))) A) ([.ref (w.2.1 + (6)), .ref (w.2.1 + (8 + 8 * j))] : List Value).toArray s ((mU mm ((decidesM X j).getD X) - mm)) ((8 * (mU mm ((decidesM X j).getD X) - mm))) A) (F0 m 2 ls []) := by
    intro nf
    induction nf with
    | zero => intro i  h2_0 h2_1 h2_2; exact absurd h2_0 (by omega)
    | succ nf ih_2 =>
      intro i  h2_0 h2_1 h2_2 H locs ls hZ hl
      refine z_iload_n F dX5_decides_2 rfl (lv_at hl 2 rfl) ?_
      refine z_bipush F (by decide) dX5_decides_3 ?_
      refine z_icmp_ge (tgt := 50) F (by omega) (by omega) dX5_decides_5 (by decide) (fun c_5 => ?_) (fun c_5 => ?_)
      · skip
        refine z_iconst F dX5_decides_50 ?_
        have hno : decidesM X j = none := by rw [← h2_2, show 10 - i = 0 by omega]; rfl
        have hst : ((decidesM X j).getD X) = X := by rw [hno]; rfl
        have hue : mm = mU mm ((decidesM X j).getD X) := by rw [hst, mU_self (by omega)]
        have hfin : Sim (G) ((decidesM X j).getD X) (mU mm ((decidesM X j).getD X)) := by rw [← hue, hst]; exact hM
        rw [hue] at hZ
        exact z_zret F hr hlocks hZ (by first | exact bI_0 (by rw [hno]; exact fun z => by cases z) | exact bI_1 (by rw [hso]; rfl)) (by omega) hfin dX5_decides_51 (by omega) (by omega)
      · skip
        refine z_aload_n F dX5_decides_8 rfl (lv_at hl 0 rfl) ?_
        refine z_aload_n F dX5_decides_9 rfl (lv_at hl 1 rfl) ?_
        refine z_iload_n F dX5_decides_10 rfl (lv_at hl 2 rfl) ?_
        refine z_iconst F dX5_decides_11 ?_
        refine z_bxr hZ (va_runV (As := [.ref (w.2.1 + (8 + 8 * j)), .int (zI ((i : Int))), .int (zI (2))]) (rest := []) F (k_X5_supported l w (dC mm) A (dC_A hA) (w.2.1 + (71 + mm)) G X mm (fun i h => dC_s h) (fun i h => dC_l h) hM hI j hj0 (by omega) ((i : Int)) 2 (by omega) (by omega)) (cwV 3 F.2.2.2.2 gX5_decides_X5_supported rfl rfl rfl (by decide +kernel) ⟨Nat.le_of_ble_eq_true rfl, Nat.le_of_ble_eq_true rfl⟩) (z_preV hK hZ (6) (dC_s (by omega)) rfl (by decide) rfl _) rfl rfl hl.1 rfl (lv_room (Nat.le_of_ble_eq_true rfl)) dX5_decides_12 ⟨by show 0 + (0) ≤ (mU mm ((decidesM X j).getD X) - mm); omega, by show 0 + (0) ≤ (8 * (mU mm ((decidesM X j).getD X) - mm)); omega⟩) (fun H locs hZ => ?_)
        refine z_vstore_n (lv' := [(3, zV w (oL (fstB (supP X j ((i : Int)) 2) (X 64 7).toNat 0))), (0, .ref (w.2.1 + (6))), (1, .ref (w.2.1 + (8 + 8 * j))), (2, .int (zI ((i : Int))))]) F dX5_decides_15 rfl hl (by decide) (by unfold zV; (repeat' split) <;> rfl) (fun ls hl => ?_)
        refine z_vload_n (w := w) F dX5_decides_16 rfl (lv_at hl 0 rfl) ?_
        refine z_ifnull (tgt := 44) F dX5_decides_17 (by decide) (fun c_17 => ?_) (fun c_17 => ?_)
        · skip
          refine z_iinc (k := 3) (z := (i : Int)) (lv' := [(2, .int (zI ((i : Int) + 1))), (3, zV w (oL (fstB (supP X j ((i : Int)) 2) (X 64 7).toNat 0))), (0, .ref (w.2.1 + (6))), (1, .ref (w.2.1 + (8 + 8 * j)))]) F dX5_decides_44 hl rfl (by decide) (by unfold zV; (repeat' split) <;> rfl) (fun ls hl => ?_)
          refine lv_goto (tgt := 2) F.1 F.2.1 dX5_decides_47 (by decide) ?_
          exact ih_2 (i + 1) (by omega) (by omega) (by rw [← h2_2, decF_no (k := 10 - i) (r := i) (by omega) (oL_neg c_17), Nat.sub_sub]) _ _ _ hZ (lv_sub hl [2, 3, 0] rfl)
        · skip
          obtain ⟨q, hfq⟩ := oL_pos c_17
          have hz : oL (fstB (supP X j ((i : Int)) 2) (X 64 7).toNat 0) = ((71 + q : Nat) : Int) := by rw [hfq]; rfl
          rw [hz, zV_nat] at hl
          obtain ⟨hq2, hv0, hv9⟩ := supP_val hI (by omega) hfq
          obtain ⟨⟨e0, e1, e2, e3, e4, e5⟩, e6, e7⟩ := hS5 q hq2
          refine z_aload_n F dX5_decides_20 rfl (lv_at hl 2 rfl) ?_
          refine z_aload_n F dX5_decides_21 rfl (lv_at hl 0 rfl) ?_
          refine z_get F hK hZ (71 + q) (dC_l (by omega)) (shp_let q) (by decide) rfl hin2 4 (by decide) mX5_decides_123 rfl rfl dX5_decides_22 ?_
          have r_1 := hZ.2.1.1 (71 + q) (4)
          refine z_topI (show G (71 + q) 4 = X 69 (6 * (q : Int) + 4) from e4) ?_
          refine z_iload_n F dX5_decides_25 rfl (lv_at hl 3 rfl) ?_
          refine z_bxv hZ (va_runV (As := [.int (zI (X 69 (6 * (q : Int) + 4))), .int (zI ((i : Int)))]) (rest := []) F (k_X6_decide l w (dC mm) A (dC_A hA) (w.2.1 + (71 + mm)) G (fun i h => dC_s h) j hj (by omega) (X 69 (6 * (q : Int) + 4)) ((i : Int)) (by omega) (by omega)) (cwV 2 F.2.2.2.2 gX5_decides_X6_decide rfl rfl rfl (by decide +kernel) ⟨Nat.le_of_ble_eq_true rfl, Nat.le_of_ble_eq_true rfl⟩) (z_preV hK hZ (8 + 8 * j) (dC_s (by omega)) (shp_seat j hj) (by decide) rfl _) rfl rfl hl.1 rfl (lv_room (Nat.le_of_ble_eq_true rfl)) dX5_decides_26 ⟨by show 0 + 0 + (0) ≤ (mU mm ((decidesM X j).getD X) - mm); omega, by show 0 + 0 + (0) ≤ (8 * (mU mm ((decidesM X j).getD X) - mm)); omega⟩) (fun H locs hZ => ?_)
          obtain ⟨G1, hG1⟩ : ∃ zz : zM, zz = cDec G j (X 69 (6 * (q : Int) + 4)) ((i : Int)) := ⟨_, rfl⟩
          obtain ⟨X1, hX1⟩ : ∃ zz : zM, zz = clrF (endM X j (i : Int) (X 69 (6 * (q : Int) + 4))) j := ⟨_, rfl⟩
          have hM1 : Sim G1 X1 mm := by rw [hG1, hX1]; exact Sim_dec hM hj (by omega) hv0
          have hI1 : Inv X1 := by rw [hX1]; exact ((Nx_end hI (by omega) (by omega) (by omega) (by omega)).tr (Inv_clr (Nx_end hI (by omega) (by omega) (by omega) (by omega)).1 (by omega))).1
          rw [← hG1] at hZ
          have sf1 := Sim_f hM1 hj
          have hC01 := hM1.2.1
          have hso : decidesM X j = some (dodecM X j (i : Int) (X 69 (6 * (q : Int) + 4))) := by rw [← h2_2, decF_yes (k := 10 - i) (r := i) (by omega) hfq]
          have hst0 : ((decidesM X j).getD X) = (dodecM X j (i : Int) (X 69 (6 * (q : Int) + 4))) := by rw [hso]; rfl
          have h64 : X1 64 = X 64 := by rw [hX1, clrF_cell _ _ (by decide), endM_o _ _ _ _ (by decide) (by decide)]
          have h640 : X1 64 0 = X 64 0 := by rw [h64]
          have hH1 : X1 67 (20 * (j : Int) + 0) = X 67 (20 * (j : Int) + 0) + 1 := by rw [hX1, clrF_ne _ _ _ ⟨by omega, by omega, by omega⟩, endM_0]
          have hHe : (endM X j (i : Int) (X 69 (6 * (q : Int) + 4))) 67 (20 * (j : Int) + 0) = X 67 (20 * (j : Int) + 0) + 1 := endM_0 _ _ _ _
          refine z_aload_n F dX5_decides_29 rfl (lv_at hl 2 rfl) ?_
          refine z_bxi hZ (va_runV (As := []) (rest := []) F (k_X6_isDone l w (dC mm) A (dC_A hA) (w.2.1 + (71 + mm)) G1 (fun i h => dC_s h) j hj) (cwV 0 F.2.2.2.2 gX5_decides_X6_isDone rfl rfl rfl (by decide +kernel) ⟨Nat.le_of_ble_eq_true rfl, Nat.le_of_ble_eq_true rfl⟩) (z_preV hK hZ (8 + 8 * j) (dC_s (by omega)) (shp_seat j hj) (by decide) rfl _) rfl rfl hl.1 rfl (lv_room (Nat.le_of_ble_eq_true rfl)) dX5_decides_30 ⟨by show 0 + 0 + 0 + (0) ≤ (mU mm ((decidesM X j).getD X) - mm); omega, by show 0 + 0 + 0 + (0) ≤ (8 * (mU mm ((decidesM X j).getD X) - mm)); omega⟩) (fun H locs hZ => ?_)
          refine z_ifB_ne (tgt := 42) F dX5_decides_33 (by decide) (fun c_33 => ?_) (fun c_33 => ?_)
          · skip
            refine z_iconst F dX5_decides_42 ?_
            have hst : ((decidesM X j).getD X) = (endM X j (i : Int) (X 69 (6 * (q : Int) + 4))) := by rw [hst0]; exact dodec_done (by omega)
            have hue : mm = mU mm ((decidesM X j).getD X) := by rw [hst, mU_self (by rw [endM_o _ _ _ _ (by decide) (by decide)]; omega)]
            have hfin : Sim (G1) ((decidesM X j).getD X) (mU mm ((decidesM X j).getD X)) := by rw [← hue, hst]; rw [hX1] at hM1; exact Sim_clr hM1 hj (by omega)
            rw [hue] at hZ
            exact z_zret F hr hlocks hZ (by first | exact bI_0 (by rw [hno]; exact fun z => by cases z) | exact bI_1 (by rw [hso]; rfl)) (by omega) hfin dX5_decides_43 (by omega) (by omega)
          · skip
            refine z_aload_n F dX5_decides_36 rfl (lv_at hl 1 rfl) ?_
            refine z_aload_n F dX5_decides_37 rfl (lv_at hl 2 rfl) ?_
            refine z_iconst F dX5_decides_38 ?_
            have hst : ((decidesM X j).getD X) = (startsM X1 j 0) := by rw [hst0, hX1]; exact dodec_go (by omega)
            have hue : mU mm (startsM X1 j 0) = mU mm ((decidesM X j).getD X) := by rw [hst]
            have huC1 := mU_c mm (startsM X1 j 0)
            refine z_backv hZ (va_runV (As := [.ref (w.2.1 + (8 + 8 * j)), .int (zI (0))]) (rest := []) F (k_X5_start l w A hA mm G1 X1 hM1 hI1 j (by omega) (by omega) 0 (by omega)) (cwV 2 F.2.2.2.2 gX5_decides_X5_start rfl rfl rfl (by decide +kernel) ⟨Nat.le_of_ble_eq_true rfl, Nat.le_of_ble_eq_true rfl⟩) (z_preV hK hZ (6) (dC_s (by omega)) rfl (by decide) rfl _) rfl rfl hl.1 rfl (lv_room (Nat.le_of_ble_eq_true rfl)) dX5_decides_39 ⟨by show 0 + 0 + 0 + 0 + (mU mm (startsM X1 j 0) - mm) ≤ (mU mm ((decidesM X j).getD X) - mm); omega, by show 0 + 0 + 0 + 0 + (8 * (mU mm (startsM X1 j 0) - mm)) ≤ (8 * (mU mm ((decidesM X j).getD X) - mm)); omega⟩) (fun C1 H locs hC1 hZ => ?_)
            refine z_iconst F dX5_decides_42 ?_
            have hfin : Sim (C1) ((decidesM X j).getD X) (mU mm ((decidesM X j).getD X)) := by rw [hst]; exact hC1
            rw [hue] at hZ
            exact z_zret F hr hlocks hZ (by first | exact bI_0 (by rw [hno]; exact fun z => by cases z) | exact bI_1 (by rw [hso]; rfl)) (by omega) hfin dX5_decides_43 (by omega) (by omega)
  exact L_2 11 0 (by omega) (by omega) rfl _ _ _ hZ (lv_sub hl [1, 2, 0] rfl)
