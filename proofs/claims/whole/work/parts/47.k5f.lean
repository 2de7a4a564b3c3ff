theorem mX5_locks_25 : Cond.fieldLink RX5 25 "LockedChain$Seat" "step" "I" ∈ wsX5_locks := by decide +kernel
theorem mX5_locks_33 : Cond.fieldLink RX5 33 "LockedChain$Seat" "round" "I" ∈ wsX5_locks := by decide +kernel
theorem mX5_locks_63 : Cond.fieldLink RX5 63 "LockedChain$Seat" "valid" "LLockedChain$Mark;" ∈ wsX5_locks := by decide +kernel
theorem mX5_locks_123 : Cond.fieldLink RX5 123 "LockedChain$Letter" "value" "I" ∈ wsX5_locks := by decide +kernel
theorem mX5_locks_164 : Cond.fieldLink RX5 164 "LockedChain$Seat" "locked" "LLockedChain$Mark;" ∈ wsX5_locks := by decide +kernel
theorem mX5_locks_180 : Cond.fieldLink RX5 180 "LockedChain$Seat" "didLock" "Z" ∈ wsX5_locks := by decide +kernel
set_option maxHeartbeats 4000000 in
set_option maxRecDepth 100000 in
theorem k_X5_locks (l : Launch) (w : zW) (A : Nat → Prop) (hA : ∀ i, i < 64 ∨ 71 ≤ i → A (w.2.1 + i)) (mm : Nat) (G X : zM) (hM : Sim G X mm) (hI : Inv X) (j : Nat) (hj0 : (j : Int) < X 64 0) (hh : X 67 (20 * (j : Int) + 0) ≤ 5) : Met l yX5_locks wsX5_locks { frames := 5, cells := (mU mm ((locksM X j).getD X) - mm), slots := (8 * (mU mm ((locksM X j).getD X) - mm)), locals := 108 } (zPre w (dC mm) (w.2.1 + (71 + mm)) G [.ref (w.2.1 + (6)), .ref (w.2.1 + (8 + 8 * j))]) (zQi w (dC (mU mm ((locksM X j).getD X))) (w.2.1 + (71 + mU mm ((locksM X j).getD X))) (bI ((locksM X j).isSome = true)) (fun C => Sim C ((locksM X j).getD X) (mU mm ((locksM X j).getD X))) A) ((mU mm ((locksM X j).getD X) - mm)) ((8 * (mU mm ((locksM X j).getD X) - mm))) A := by
  refine Met.ofW (cc := cX5_locks) (maxL := 3) (ret := (some .boolean)) (by decide) rfl ?_
  intro p e s m args below meth c s₁ B hml hv
  obtain ⟨rfl, hsz, hP, hK⟩ := hv
  have F : CallFix p m c cX5_locks 3 s _ wsX5_locks RX5 := ⟨B.exec, B.bytes, hml, findClass_of_methodNamed B.named, atoms_spec (ws := wsX5_locks) B.pre⟩
  have hr := B.returns
  have hlocks := B.notSynchronized
  have hZ : Zs w (dC mm) A s.heap (w.2.1 + (71 + mm)) G s.heap [] := ⟨hsz, hP, va_S.rf⟩
  have hl := lv_entry ([.ref (w.2.1 + (6)), .ref (w.2.1 + (8 + 8 * j))]) (n := 3) (Nat.le_of_ble_eq_true rfl)
  rw [lg_entry_eq]
  generalize (lg_sl ([.ref (w.2.1 + (6)), .ref (w.2.1 + (8 + 8 * j))]) ++ List.replicate (3 - (lg_sl ([.ref (w.2.1 + (6)), .ref (w.2.1 + (8 + 8 * j))])).length) Slot.unset).toArray = ls at hl ⊢
  have hl : lv_has ls 3 [(0, .ref (w.2.1 + (6))), (1, .ref (w.2.1 + (8 + 8 * j)))] := hl
  have hin2 : ∀ v ∈ u_ws RX2 TX2 8, v ∈ wsX5_locks := by decide +kernel
  have hin6 : ∀ v ∈ u_ws RX6 TX6 15, v ∈ wsX5_locks := by decide +kernel
  have hn := hI.1
  have hLL := hI.2.2.2.1
  have hj : j < 7 := by omega
  have hS : PostS G X mm := hM.1
  obtain ⟨hS1, hS2, hS3, hS4, hS5⟩ := hM.1
  have hC0 := hM.2.1
  have sf := Sim_f hM hj
  have sr := seat_rng hI (s := (j : Int)) (by omega)
  have hu := mU_c mm ((locksM X j).getD X)
  have fl := flag_rng hI (s := (j : Int)) (by omega)
  have sfl := Sim_fl hM hj hh
  refine z_aload_n F dX5_locks_0 rfl (lv_at hl 1 rfl) ?_
  refine z_get F hK hZ (8 + 8 * j) (dC_s (by omega)) (shp_seat j hj) (by decide) rfl hin6 4 (by decide) mX5_locks_25 rfl rfl dX5_locks_1 ?_
  have r_1 := hZ.2.1.1 (8 + 8 * j) (4)
  refine z_topI (show G (8 + 8 * j) 4 = X 67 (20 * (j : Int) + 2) from sf.2.2.2.2.1) ?_
  refine z_if_eq (tgt := 14) F (by omega) dX5_locks_4 (by decide) (fun c_4 => ?_) (fun c_4 => ?_)
  · skip
    refine lv_null F.1 F.2.1 dX5_locks_14 ?_
    refine lv_goto (tgt := 28) F.1 F.2.1 dX5_locks_15 (by decide) ?_
    refine lv_astore_nN (lv' := [(2, .null), (0, .ref (w.2.1 + (6))), (1, .ref (w.2.1 + (8 + 8 * j)))]) F.1 F.2.1 dX5_locks_28 rfl hl (by decide) rfl (fun ls hl => ?_)
    refine lv_aload_nN F.1 F.2.1 dX5_locks_29 rfl (lv_at hl 0 rfl) ?_
    refine lv_ifnonnullN F.1 F.2.1 dX5_locks_30 ?_
    refine z_iconst F dX5_locks_33 ?_
    have hno : locksM X j = none := by first | exact lock_s (by omega) | exact lock_n (by omega) (oL_neg c_30)
    have hst : ((locksM X j).getD X) = X := by rw [hno]; rfl
    have hue : mm = mU mm ((locksM X j).getD X) := by rw [hst, mU_self (by omega)]
    have hfin : Sim (G) ((locksM X j).getD X) (mU mm ((locksM X j).getD X)) := by rw [← hue, hst]; exact hM
    rw [hue] at hZ
    exact z_zret F hr hlocks hZ (by first | exact bI_0 (by rw [hno]; exact fun z => by cases z) | exact bI_1 (by rw [hso]; rfl)) (by omega) hfin dX5_locks_34 (by omega) (by omega)
  · skip
    refine z_aload_n F dX5_locks_7 rfl (lv_at hl 1 rfl) ?_
    refine z_get F hK hZ (8 + 8 * j) (dC_s (by omega)) (shp_seat j hj) (by decide) rfl hin6 6 (by decide) mX5_locks_180 rfl rfl dX5_locks_8 ?_
    have r_2 := hZ.2.1.1 (8 + 8 * j) (6)
    refine z_if_eq (tgt := 18) F (by omega) dX5_locks_11 (by decide) (fun c_11 => ?_) (fun c_11 => ?_)
    · skip
      refine z_aload_n F dX5_locks_18 rfl (lv_at hl 0 rfl) ?_
      refine z_aload_n F dX5_locks_19 rfl (lv_at hl 1 rfl) ?_
      refine z_aload_n F dX5_locks_20 rfl (lv_at hl 1 rfl) ?_
      refine z_get F hK hZ (8 + 8 * j) (dC_s (by omega)) (shp_seat j hj) (by decide) rfl hin6 3 (by decide) mX5_locks_33 rfl rfl dX5_locks_21 ?_
      have r_3 := hZ.2.1.1 (8 + 8 * j) (3)
      refine z_topI (show G (8 + 8 * j) 3 = X 67 (20 * (j : Int) + 1) from sf.2.2.2.1) ?_
      refine z_iconst F dX5_locks_24 ?_
      refine z_bxr hZ (va_runV (As := [.ref (w.2.1 + (8 + 8 * j)), .int (zI (X 67 (20 * (j : Int) + 1))), .int (zI (1))]) (rest := []) F (k_X5_supported l w (dC mm) A (dC_A hA) (w.2.1 + (71 + mm)) G X mm (fun i h => dC_s h) (fun i h => dC_l h) hM hI j hj0 (by omega) (X 67 (20 * (j : Int) + 1)) 1 (by omega) (by omega)) (cwV 3 F.2.2.2.2 gX5_locks_X5_supported rfl rfl rfl (by decide +kernel) ⟨Nat.le_of_ble_eq_true rfl, Nat.le_of_ble_eq_true rfl⟩) (z_preV hK hZ (6) (dC_s (by omega)) rfl (by decide) rfl _) rfl rfl hl.1 rfl (lv_room (Nat.le_of_ble_eq_true rfl)) dX5_locks_25 ⟨by show 0 + (0) ≤ (mU mm ((locksM X j).getD X) - mm); omega, by show 0 + (0) ≤ (8 * (mU mm ((locksM X j).getD X) - mm)); omega⟩) (fun H locs hZ => ?_)
      refine z_vstore_n (lv' := [(2, zV w (oL (fstB (supP X j (X 67 (20 * (j : Int) + 1)) 1) (X 64 7).toNat 0))), (0, .ref (w.2.1 + (6))), (1, .ref (w.2.1 + (8 + 8 * j)))]) F dX5_locks_28 rfl hl (by decide) (by unfold zV; (repeat' split) <;> rfl) (fun ls hl => ?_)
      refine z_vload_n (w := w) F dX5_locks_29 rfl (lv_at hl 0 rfl) ?_
      refine z_ifnonnull (tgt := 35) F dX5_locks_30 (by decide) (fun c_30 => ?_) (fun c_30 => ?_)
      · skip
        obtain ⟨q, hfq⟩ := oL_pos c_30
        have hz : oL (fstB (supP X j (X 67 (20 * (j : Int) + 1)) 1) (X 64 7).toNat 0) = ((71 + q : Nat) : Int) := by rw [hfq]; rfl
        rw [hz, zV_nat] at hl
        obtain ⟨hq2, hv0, hv9⟩ := supP_val hI (by omega) hfq
        obtain ⟨⟨e0, e1, e2, e3, e4, e5⟩, e6, e7⟩ := hS5 q hq2
        refine z_aload_n F dX5_locks_35 rfl (lv_at hl 2 rfl) ?_
        refine z_iconst F dX5_locks_36 ?_
        refine z_put (z := 1) F hK hZ (dC_A hA) (8 + 8 * j) (dC_s (by omega)) (shp_seat j hj) (by decide) rfl hin6 tyX6 tyX6_ok nmX6 6 (by decide) mX5_locks_180 rfl rfl rfl rfl (by omega) (kz := 6) rfl rfl (Nat.le_of_ble_eq_true rfl) dX5_locks_37 (fun H locs hZ => ?_)
        obtain ⟨G1, hG1⟩ : ∃ zz : zM, zz = up G (8 + 8 * j) (6) (1) := ⟨_, rfl⟩
        obtain ⟨X1, hX1⟩ : ∃ zz : zM, zz = setM X j 8 1 := ⟨_, rfl⟩
        have hM1 : Sim G1 X1 mm := by rw [hG1, hX1]; exact Sim_f6 hM hj
        have hI1 : Inv X1 := by rw [hX1]; exact (Nx_seat6 (v := 0) hI (by omega) (by omega)).1
        rw [← hG1] at hZ
        have sf1 := Sim_f hM1 hj
        have hC01 := hM1.2.1
        have h64 : X1 64 = X 64 := by rw [hX1, setM_cell _ _ _ _ (by decide)]
        have h640 : X1 64 0 = X 64 0 := by rw [h64]
        have h647 : X1 64 7 = X 64 7 := by rw [h64]
        have h2_1 : X1 67 (20 * (j : Int) + 2) = X 67 (20 * (j : Int) + 2) := by rw [hX1, setM_ne _ _ _ _ _ (by omega)]
        have h1_1 : X1 67 (20 * (j : Int) + 1) = X 67 (20 * (j : Int) + 1) := by rw [hX1, setM_ne _ _ _ _ _ (by omega)]
        have h0_1 : X1 67 (20 * (j : Int) + 0) = X 67 (20 * (j : Int) + 0) := by rw [hX1, setM_ne _ _ _ _ _ (by omega)]
        have e4_1 : G1 (71 + q) 4 = (X 69 (6 * (q : Int) + 4)) := by rw [Sim_l4 hM1 (by omega), hX1, setM_cell _ _ _ _ (by decide)]
        refine z_aload_n F dX5_locks_40 rfl (lv_at hl 2 rfl) ?_
        refine z_get F hK hZ (8 + 8 * j) (dC_s (by omega)) (shp_seat j hj) (by decide) rfl hin6 4 (by decide) mX5_locks_25 rfl rfl dX5_locks_41 ?_
        have r_4 := hZ.2.1.1 (8 + 8 * j) (4)
        refine z_topI (show G1 (8 + 8 * j) 4 = X1 67 (20 * (j : Int) + 2) from sf1.2.2.2.2.1) ?_
        refine z_iconst F dX5_locks_44 ?_
        refine z_icmp_ne (tgt := 73) F (by omega) (by omega) dX5_locks_45 (by decide) (fun c_45 => ?_) (fun c_45 => ?_)
        · skip
          have hso : locksM X j = some (setM (setM X1 j 5 (X 69 (6 * (q : Int) + 4))) j 6 (X 67 (20 * (j : Int) + 1))) := by rw [hX1]; exact lock_2 (by omega) hfq (by omega)
          have hst : ((locksM X j).getD X) = setM (setM X1 j 5 (X 69 (6 * (q : Int) + 4))) j 6 (X 67 (20 * (j : Int) + 1)) := by rw [hso]; rfl
          have hue : mm = mU mm ((locksM X j).getD X) := by rw [hst, mU_set, mU_set, mU_self (by omega)]
          refine z_aload_n F dX5_locks_73 rfl (lv_at hl 2 rfl) ?_
          refine z_get F hK hZ (8 + 8 * j) (dC_s (by omega)) (shp_seat j hj) (by decide) rfl hin6 11 (by decide) mX5_locks_63 rfl rfl dX5_locks_74 ?_
          refine z_aload_n F dX5_locks_77 rfl (lv_at hl 0 rfl) ?_
          refine z_get F hK hZ (71 + q) (dC_l (by omega)) (shp_let q) (by decide) rfl hin2 4 (by decide) mX5_locks_123 rfl rfl dX5_locks_78 ?_
          have r_5 := hZ.2.1.1 (71 + q) (4)
          refine z_topI (show G1 (71 + q) 4 = X 69 (6 * (q : Int) + 4) from e4_1) ?_
          refine z_aload_n F dX5_locks_81 rfl (lv_at hl 2 rfl) ?_
          refine z_get F hK hZ (8 + 8 * j) (dC_s (by omega)) (shp_seat j hj) (by decide) rfl hin6 3 (by decide) mX5_locks_33 rfl rfl dX5_locks_82 ?_
          have r_6 := hZ.2.1.1 (8 + 8 * j) (3)
          refine z_topI (show G1 (8 + 8 * j) 3 = X1 67 (20 * (j : Int) + 1) from sf1.2.2.2.1) ?_
          refine z_bxv hZ (va_runV (As := [.int (zI (X 69 (6 * (q : Int) + 4))), .int (zI (X1 67 (20 * (j : Int) + 1)))]) (rest := []) F (k_X3_put l w (dC mm) A (dC_A hA) (w.2.1 + (71 + mm)) G1 (8 + 8 * j + 2) (dC_s (by omega)) (shp_valid j hj) (X 69 (6 * (q : Int) + 4)) (X1 67 (20 * (j : Int) + 1)) (by omega) (by omega)) (cwV 2 F.2.2.2.2 gX5_locks_X3_put rfl rfl rfl (by decide +kernel) ⟨Nat.le_of_ble_eq_true rfl, Nat.le_of_ble_eq_true rfl⟩) (z_preV hK hZ (8 + 8 * j + 2) (dC_s (by omega)) (shp_valid j hj) (by decide) rfl _) rfl rfl hl.1 rfl (lv_room (Nat.le_of_ble_eq_true rfl)) dX5_locks_85 ⟨by show 0 + 0 + (0) ≤ (mU mm ((locksM X j).getD X) - mm); omega, by show 0 + 0 + (0) ≤ (8 * (mU mm ((locksM X j).getD X) - mm)); omega⟩) (fun H locs hZ => ?_)
          refine z_iconst F dX5_locks_88 ?_
          have hfin : Sim (up (up G1 (8 + 8 * j + 2) 0 (X 69 (6 * (q : Int) + 4))) (8 + 8 * j + 2) 1 (X1 67 (20 * (j : Int) + 1))) ((locksM X j).getD X) (mU mm ((locksM X j).getD X)) := by rw [← hue, hst, ← h1_1]; exact Sim_valid hM1 hj hv0
          rw [hue] at hZ
          exact z_zret F hr hlocks hZ (by first | exact bI_0 (by rw [hno]; exact fun z => by cases z) | exact bI_1 (by rw [hso]; rfl)) (by omega) hfin dX5_locks_89 (by omega) (by omega)
        · skip
          refine z_aload_n F dX5_locks_48 rfl (lv_at hl 2 rfl) ?_
          refine z_get F hK hZ (8 + 8 * j) (dC_s (by omega)) (shp_seat j hj) (by decide) rfl hin6 10 (by decide) mX5_locks_164 rfl rfl dX5_locks_49 ?_
          refine z_aload_n F dX5_locks_52 rfl (lv_at hl 0 rfl) ?_
          refine z_get F hK hZ (71 + q) (dC_l (by omega)) (shp_let q) (by decide) rfl hin2 4 (by decide) mX5_locks_123 rfl rfl dX5_locks_53 ?_
          have r_7 := hZ.2.1.1 (71 + q) (4)
          refine z_topI (show G1 (71 + q) 4 = X 69 (6 * (q : Int) + 4) from e4_1) ?_
          refine z_aload_n F dX5_locks_56 rfl (lv_at hl 2 rfl) ?_
          refine z_get F hK hZ (8 + 8 * j) (dC_s (by omega)) (shp_seat j hj) (by decide) rfl hin6 3 (by decide) mX5_locks_33 rfl rfl dX5_locks_57 ?_
          have r_8 := hZ.2.1.1 (8 + 8 * j) (3)
          refine z_topI (show G1 (8 + 8 * j) 3 = X1 67 (20 * (j : Int) + 1) from sf1.2.2.2.1) ?_
          refine z_bxv hZ (va_runV (As := [.int (zI (X 69 (6 * (q : Int) + 4))), .int (zI (X1 67 (20 * (j : Int) + 1)))]) (rest := []) F (k_X3_put l w (dC mm) A (dC_A hA) (w.2.1 + (71 + mm)) G1 (8 + 8 * j + 1) (dC_s (by omega)) (shp_lock j hj) (X 69 (6 * (q : Int) + 4)) (X1 67 (20 * (j : Int) + 1)) (by omega) (by omega)) (cwV 2 F.2.2.2.2 gX5_locks_X3_put rfl rfl rfl (by decide +kernel) ⟨Nat.le_of_ble_eq_true rfl, Nat.le_of_ble_eq_true rfl⟩) (z_preV hK hZ (8 + 8 * j + 1) (dC_s (by omega)) (shp_lock j hj) (by decide) rfl _) rfl rfl hl.1 rfl (lv_room (Nat.le_of_ble_eq_true rfl)) dX5_locks_60 ⟨by show 0 + 0 + (0) ≤ (mU mm ((locksM X j).getD X) - mm); omega, by show 0 + 0 + (0) ≤ (8 * (mU mm ((locksM X j).getD X) - mm)); omega⟩) (fun H locs hZ => ?_)
          obtain ⟨G2, hG2⟩ : ∃ zz : zM, zz = up (up G1 (8 + 8 * j + 1) 0 (X 69 (6 * (q : Int) + 4))) (8 + 8 * j + 1) 1 (X1 67 (20 * (j : Int) + 1)) := ⟨_, rfl⟩
          obtain ⟨X2, hX2⟩ : ∃ zz : zM, zz = setM (setM X1 j 3 (X 69 (6 * (q : Int) + 4))) j 4 (X1 67 (20 * (j : Int) + 1)) := ⟨_, rfl⟩
          have hM2 : Sim G2 X2 mm := by rw [hG2, hX2]; exact Sim_lock hM1 hj hv0
          have hI2 : Inv X2 := by rw [hX2]; exact (Nx_two (k := 3) hI1 (by omega) (Or.inl rfl) (by omega) (by omega)).1
          rw [← hG2] at hZ
          have sf2 := Sim_f hM2 hj
          have hC02 := hM2.2.1
          have h64b : X2 64 = X 64 := by rw [hX2, setM_cell _ _ _ _ (by decide), setM_cell _ _ _ _ (by decide), h64]
          have h640b : X2 64 0 = X 64 0 := by rw [h64b]
          have h647b : X2 64 7 = X 64 7 := by rw [h64b]
          have h1_2 : X2 67 (20 * (j : Int) + 1) = X 67 (20 * (j : Int) + 1) := by rw [hX2, setM_ne _ _ _ _ _ (by omega), setM_ne _ _ _ _ _ (by omega), h1_1]
          have h0_2 : X2 67 (20 * (j : Int) + 0) = X 67 (20 * (j : Int) + 0) := by rw [hX2, setM_ne _ _ _ _ _ (by omega), setM_ne _ _ _ _ _ (by omega), h0_1]
          have e4_2 : G2 (71 + q) 4 = (X 69 (6 * (q : Int) + 4)) := by rw [Sim_l4 hM2 (by omega), hX2, setM_cell _ _ _ _ (by decide), setM_cell _ _ _ _ (by decide), hX1, setM_cell _ _ _ _ (by decide)]
          refine z_aload_n F dX5_locks_63 rfl (lv_at hl 1 rfl) ?_
          refine z_aload_n F dX5_locks_64 rfl (lv_at hl 2 rfl) ?_
          refine z_iconst F dX5_locks_65 ?_
          refine z_aload_n F dX5_locks_66 rfl (lv_at hl 0 rfl) ?_
          refine z_get F hK hZ (71 + q) (dC_l (by omega)) (shp_let q) (by decide) rfl hin2 4 (by decide) mX5_locks_123 rfl rfl dX5_locks_67 ?_
          have r_9 := hZ.2.1.1 (71 + q) (4)
          refine z_topI (show G2 (71 + q) 4 = X 69 (6 * (q : Int) + 4) from e4_2) ?_
          have hso : locksM X j = some (setM (setM (castsM X2 j 2 (X 69 (6 * (q : Int) + 4))) j 5 (X 69 (6 * (q : Int) + 4))) j 6 (X 67 (20 * (j : Int) + 1))) := by rw [hX2, h1_1, hX1]; exact lock_1 (by omega) hfq (by omega)
          have hst : ((locksM X j).getD X) = setM (setM (castsM X2 j 2 (X 69 (6 * (q : Int) + 4))) j 5 (X 69 (6 * (q : Int) + 4))) j 6 (X 67 (20 * (j : Int) + 1)) := by rw [hso]; rfl
          have hue : mU mm (castsM X2 j 2 (X 69 (6 * (q : Int) + 4))) = mU mm ((locksM X j).getD X) := by rw [hst, mU_set, mU_set]
          have huC1 := mU_c mm (castsM X2 j 2 (X 69 (6 * (q : Int) + 4)))
          refine z_backv hZ (va_runV (As := [.ref (w.2.1 + (8 + 8 * j)), .int (zI (2)), .int (zI (X 69 (6 * (q : Int) + 4)))]) (rest := []) F (k_X5_vote l w A hA mm G2 X2 hM2 hI2 j (by omega) (by omega) 2 (X 69 (6 * (q : Int) + 4)) (by omega) (by omega)) (cwV 3 F.2.2.2.2 gX5_locks_X5_vote rfl rfl rfl (by decide +kernel) ⟨Nat.le_of_ble_eq_true rfl, Nat.le_of_ble_eq_true rfl⟩) (z_preV hK hZ (6) (dC_s (by omega)) rfl (by decide) rfl _) rfl rfl hl.1 rfl (lv_room (Nat.le_of_ble_eq_true rfl)) dX5_locks_70 ⟨by show 0 + 0 + 0 + (mU mm (castsM X2 j 2 (X 69 (6 * (q : Int) + 4))) - mm) ≤ (mU mm ((locksM X j).getD X) - mm); omega, by show 0 + 0 + 0 + (8 * (mU mm (castsM X2 j 2 (X 69 (6 * (q : Int) + 4))) - mm)) ≤ (8 * (mU mm ((locksM X j).getD X) - mm)); omega⟩) (fun C1 H locs hC1 hZ => ?_)
          obtain ⟨G3, hG3⟩ : ∃ zz : zM, zz = C1 := ⟨_, rfl⟩
          obtain ⟨X3, hX3⟩ : ∃ zz : zM, zz = (castsM X2 j 2 (X 69 (6 * (q : Int) + 4))) := ⟨_, rfl⟩
          have hM3 : Sim G3 X3 (mU mm (castsM X2 j 2 (X 69 (6 * (q : Int) + 4)))) := by rw [hG3, hX3]; exact hC1
          have hI3 : Inv X3 := by rw [hX3]; exact (Nx_casts hI2 (by omega) (by omega) (by omega) (by omega)).1
          rw [← hG3] at hZ
          have sf3 := Sim_f hM3 hj
          have hC03 := hM3.2.1
          have h64c : X2 64 7 ≤ X3 64 7 := by rw [hX3]; exact (Nx_casts hI2 (by omega) (by omega) (by omega) (by omega)).2.2.2.2
          have h1_3 : X3 67 (20 * (j : Int) + 1) = X 67 (20 * (j : Int) + 1) := by rw [hX3, castsM_ne _ _ _ _ _ (by omega), h1_2]
          have e4_3 : G3 (71 + q) 4 = (X 69 (6 * (q : Int) + 4)) := by rw [Sim_l4 hM3 (by omega), hX3, castsM_let (by omega), hX2, setM_cell _ _ _ _ (by decide), setM_cell _ _ _ _ (by decide), hX1, setM_cell _ _ _ _ (by decide)]
          have sr3 := seat_rng hI3 (s := (j : Int)) (by omega)
          refine z_aload_n F dX5_locks_73 rfl (lv_at hl 2 rfl) ?_
          refine z_get F hK hZ (8 + 8 * j) (dC_s (by omega)) (shp_seat j hj) (by decide) rfl hin6 11 (by decide) mX5_locks_63 rfl rfl dX5_locks_74 ?_
          refine z_aload_n F dX5_locks_77 rfl (lv_at hl 0 rfl) ?_
          refine z_get F hK hZ (71 + q) (dC_l (by omega)) (shp_let q) (by decide) rfl hin2 4 (by decide) mX5_locks_123 rfl rfl dX5_locks_78 ?_
          have r_10 := hZ.2.1.1 (71 + q) (4)
          refine z_topI (show G3 (71 + q) 4 = X 69 (6 * (q : Int) + 4) from e4_3) ?_
          refine z_aload_n F dX5_locks_81 rfl (lv_at hl 2 rfl) ?_
          refine z_get F hK hZ (8 + 8 * j) (dC_s (by omega)) (shp_seat j hj) (by decide) rfl hin6 3 (by decide) mX5_locks_33 rfl rfl dX5_locks_82 ?_
          have r_11 := hZ.2.1.1 (8 + 8 * j) (3)
          refine z_topI (show G3 (8 + 8 * j) 3 = X3 67 (20 * (j : Int) + 1) from sf3.2.2.2.1) ?_
          refine z_bxv hZ (va_runV (As := [.int (zI (X 69 (6 * (q : Int) + 4))), .int (zI (X3 67 (20 * (j : Int) + 1)))]) (rest := []) F (k_X3_put l w (dC ((mU mm (castsM X2 j 2 (X 69 (6 * (q : Int) + 4)))))) A (dC_A hA) (w.2.1 + (71 + ((mU mm (castsM X2 j 2 (X 69 (6 * (q : Int) + 4))))))) G3 (8 + 8 * j + 2) (dC_s (by omega)) (shp_valid j hj) (X 69 (6 * (q : Int) + 4)) (X3 67 (20 * (j : Int) + 1)) (by omega) (by omega)) (cwV 2 F.2.2.2.2 gX5_locks_X3_put rfl rfl rfl (by decide +kernel) ⟨Nat.le_of_ble_eq_true rfl, Nat.le_of_ble_eq_true rfl⟩) (z_preV hK hZ (8 + 8 * j + 2) (dC_s (by omega)) (shp_valid j hj) (by decide) rfl _) rfl rfl hl.1 rfl (lv_room (Nat.le_of_ble_eq_true rfl)) dX5_locks_85 ⟨by show 0 + 0 + 0 + (mU mm (castsM X2 j 2 (X 69 (6 * (q : Int) + 4))) - mm) + (0) ≤ (mU mm ((locksM X j).getD X) - mm); omega, by show 0 + 0 + 0 + (8 * (mU mm (castsM X2 j 2 (X 69 (6 * (q : Int) + 4))) - mm)) + (0) ≤ (8 * (mU mm ((locksM X j).getD X) - mm)); omega⟩) (fun H locs hZ => ?_)
          refine z_iconst F dX5_locks_88 ?_
          have hfin : Sim (up (up G3 (8 + 8 * j + 2) 0 (X 69 (6 * (q : Int) + 4))) (8 + 8 * j + 2) 1 (X3 67 (20 * (j : Int) + 1))) ((locksM X j).getD X) (mU mm ((locksM X j).getD X)) := by have hM3b := hM3; rw [← hX3] at hM3b; rw [← hue, hst, ← hX3, ← h1_3]; exact Sim_valid hM3b hj hv0
          rw [hue] at hZ
          exact z_zret F hr hlocks hZ (by first | exact bI_0 (by rw [hno]; exact fun z => by cases z) | exact bI_1 (by rw [hso]; rfl)) (by omega) hfin dX5_locks_89 (by omega) (by omega)
      · skip
        refine z_iconst F dX5_locks_33 ?_
        have hno : locksM X j = none := by first | exact lock_s (by omega) | exact lock_n (by omega) (oL_neg c_30)
        have hst : ((locksM X j).getD X) = X := by rw [hno]; rfl
        have hue : mm = mU mm ((locksM X j).getD X) := by rw [hst, mU_self (by omega)]
        have hfin : Sim (G) ((locksM X j).getD X) (mU mm ((locksM X j).getD X)) := by rw [← hue, hst]; exact hM
        rw [hue] at hZ
        exact z_zret F hr hlocks hZ (by first | exact bI_0 (by rw [hno]; exact fun z => by cases z) | exact bI_1 (by rw [hso]; rfl)) (by omega) hfin dX5_locks_34 (by omega) (by omega)
    · skip
      refine lv_null F.1 F.2.1 dX5_locks_14 ?_
      refine lv_goto (tgt := 28) F.1 F.2.1 dX5_locks_15 (by decide) ?_
      refine lv_astore_nN (lv' := [(2, .null), (0, .ref (w.2.1 + (6))), (1, .ref (w.2.1 + (8 + 8 * j)))]) F.1 F.2.1 dX5_locks_28 rfl hl (by decide) rfl (fun ls hl => ?_)
      refine lv_aload_nN F.1 F.2.1 dX5_locks_29 rfl (lv_at hl 0 rfl) ?_
      refine lv_ifnonnullN F.1 F.2.1 dX5_locks_30 ?_
      refine z_iconst F dX5_locks_33 ?_
      have hno : locksM X j = none := by first | exact lock_s (by omega) | exact lock_n (by omega) (oL_neg c_30)
      have hst : ((locksM X j).getD X) = X := by rw [hno]; rfl
      have hue : mm = mU mm ((locksM X j).getD X) := by rw [hst, mU_self (by omega)]
      have hfin : Sim (G) ((locksM X j).getD X) (mU mm ((locksM X j).getD X)) := by rw [← hue, hst]; exact hM
      rw [hue] at hZ
      exact z_zret F hr hlocks hZ (by first | exact bI_0 (by rw [hno]; exact fun z => by cases z) | exact bI_1 (by rw [hso]; rfl)) (by omega) hfin dX5_locks_34 (by omega) (by omega)
