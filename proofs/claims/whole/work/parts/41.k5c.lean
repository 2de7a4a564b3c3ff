theorem mX5_ring_25 : Cond.fieldLink RX5 25 "LockedChain$Seat" "step" "I" ∈ wsX5_ring := by decide +kernel
theorem mX5_ring_33 : Cond.fieldLink RX5 33 "LockedChain$Seat" "round" "I" ∈ wsX5_ring := by decide +kernel
set_option maxHeartbeats 4000000 in
set_option maxRecDepth 100000 in
theorem k_X5_ring (l : Launch) (w : zW) (A : Nat → Prop) (hA : ∀ i, i < 64 ∨ 71 ≤ i → A (w.2.1 + i)) (mm : Nat) (G X : zM) (hM : Sim G X mm) (hI : Inv X) (j : Nat) (hj0 : (j : Int) < X 64 0) (hh : X 67 (20 * (j : Int) + 0) ≤ 5) (k : Int) (hk : 0 ≤ k ∧ k < 3) (hset : X 67 (20 * (j : Int) + (11 + k)) = 1) : Met l yX5_ring wsX5_ring { frames := 5, cells := (mU mm (ringM X j k) - mm), slots := (8 * (mU mm (ringM X j k) - mm)), locals := 108 } (zPre w (dC mm) (w.2.1 + (71 + mm)) G [.ref (w.2.1 + (6)), .ref (w.2.1 + (8 + 8 * j)), .int (zI (k))]) (zQv w (dC (mU mm (ringM X j k))) (w.2.1 + (71 + mU mm (ringM X j k))) (fun C => Sim C (ringM X j k) (mU mm (ringM X j k))) A) ((mU mm (ringM X j k) - mm)) ((8 * (mU mm (ringM X j k) - mm))) A := by
  refine Met.ofW (cc := cX5_ring) (maxL := 3) (ret := none) (by decide) rfl ?_
  intro p e s m args below meth c s₁ B hml hv
  obtain ⟨rfl, hsz, hP, hK⟩ := hv
  have F : CallFix p m c cX5_ring 3 s _ wsX5_ring RX5 := ⟨B.exec, B.bytes, hml, findClass_of_methodNamed B.named, atoms_spec (ws := wsX5_ring) B.pre⟩
  have hr := B.returns
  have hlocks := B.notSynchronized
  have hZ : Zs w (dC mm) A s.heap (w.2.1 + (71 + mm)) G s.heap [] := ⟨hsz, hP, va_S.rf⟩
  have hl := lv_entry ([.ref (w.2.1 + (6)), .ref (w.2.1 + (8 + 8 * j)), .int (zI (k))]) (n := 3) (Nat.le_of_ble_eq_true rfl)
  rw [lg_entry_eq]
  generalize (lg_sl ([.ref (w.2.1 + (6)), .ref (w.2.1 + (8 + 8 * j)), .int (zI (k))]) ++ List.replicate (3 - (lg_sl ([.ref (w.2.1 + (6)), .ref (w.2.1 + (8 + 8 * j)), .int (zI (k))])).length) Slot.unset).toArray = ls at hl ⊢
  have hl : lv_has ls 3 [(0, .ref (w.2.1 + (6))), (1, .ref (w.2.1 + (8 + 8 * j))), (2, .int (zI (k)))] := hl
  have hin6 : ∀ v ∈ u_ws RX6 TX6 15, v ∈ wsX5_ring := by decide +kernel
  have hn := hI.1
  have hLL := hI.2.2.2.1
  have hj : j < 7 := by omega
  have hS : PostS G X mm := hM.1
  obtain ⟨hS1, hS2, hS3, hS4, hS5⟩ := hM.1
  have hC0 := hM.2.1
  have sf := Sim_f hM hj
  have sr := seat_rng hI (s := (j : Int)) (by omega)
  have hu := mU_c mm (ringM X j k)
  refine z_aload_n F dX5_ring_0 rfl (lv_at hl 1 rfl) ?_
  refine z_iload_n F dX5_ring_1 rfl (lv_at hl 2 rfl) ?_
  refine z_bxi hZ (va_runV (As := [.int (zI (k))]) (rest := []) F (k_X6_unset l w (dC mm) A (dC_A hA) (w.2.1 + (71 + mm)) G (fun i h => dC_s h) j hj (by omega) (by omega) k hk) (cwV 1 F.2.2.2.2 gX5_ring_X6_unset rfl rfl rfl (by decide +kernel) ⟨Nat.le_of_ble_eq_true rfl, Nat.le_of_ble_eq_true rfl⟩) (z_preV hK hZ (8 + 8 * j) (dC_s (by omega)) (shp_seat j hj) (by decide) rfl _) rfl rfl hl.1 rfl (lv_room (Nat.le_of_ble_eq_true rfl)) dX5_ring_2 ⟨by show 0 + (0) ≤ (mU mm (ringM X j k) - mm); omega, by show 0 + (0) ≤ (8 * (mU mm (ringM X j k) - mm)); omega⟩) (fun H locs hZ => ?_)
  obtain ⟨G1, hG1⟩ : ∃ q : zM, q = cUns G j k := ⟨_, rfl⟩
  obtain ⟨X1, hX1⟩ : ∃ q : zM, q = setM X j (11 + k) 0 := ⟨_, rfl⟩
  have hM1 : Sim G1 X1 mm := by rw [hG1, hX1]; exact Sim_uns hM hj hk
  have hI1 : Inv X1 := by rw [hX1]; exact (Nx_tim0 hI (by omega) hk).1
  rw [← hG1] at hZ
  have sf1 := Sim_f hM1 hj
  have hC01 := hM1.2.1
  have hrb := ring_b hM hI hj hk hset
  rw [← hX1] at hrb
  refine z_topI hrb ?_
  have h64 : X1 64 = X 64 := by rw [hX1, setM_cell _ _ _ _ (by decide)]
  have h640 : X1 64 0 = X 64 0 := by rw [h64]
  have hh1 : X1 67 (20 * (j : Int) + 0) ≤ 5 := by rw [hX1, setM_ne _ _ _ _ _ (by omega)]; exact hh
  have sr1 := seat_rng hI1 (s := (j : Int)) (by omega)
  refine z_ifB_ne (tgt := 9) F dX5_ring_5 (by decide) (fun c_5 => ?_) (fun c_5 => ?_)
  · skip
    refine z_iload_n F dX5_ring_9 rfl (lv_at hl 2 rfl) ?_
    refine z_if_ne (tgt := 30) F (by omega) dX5_ring_10 (by decide) (fun c_10 => ?_) (fun c_10 => ?_)
    · skip
      refine z_iload_n F dX5_ring_30 rfl (lv_at hl 2 rfl) ?_
      refine z_iconst F dX5_ring_31 ?_
      refine z_icmp_ne (tgt := 53) F (by omega) (by omega) dX5_ring_32 (by decide) (fun c_32 => ?_) (fun c_32 => ?_)
      · skip
        refine z_iload_n F dX5_ring_53 rfl (lv_at hl 2 rfl) ?_
        refine z_iconst F dX5_ring_54 ?_
        refine z_icmp_ne (tgt := 69) F (by omega) (by omega) dX5_ring_55 (by decide) (fun c_55 => ?_) (fun c_55 => ?_)
        · skip
          have hst : (ringM X j k) = X1 := by unfold ringM; rw [← hX1]; first | rw [if_neg (show ¬ _ from c_5)] | rw [if_pos (show _ from c_5), if_neg (by omega), if_neg (by omega), if_neg (by omega)]
          have hue : mm = mU mm (ringM X j k) := by rw [hst, mU_self (by rw [h64]; omega)]
          have hfin : Sim (G1) (ringM X j k) (mU mm (ringM X j k)) := by rw [← hue, hst]; exact hM1
          rw [hue] at hZ
          exact z_vret F hr hlocks hZ hfin dX5_ring_69 (by omega) (by omega)
        · skip
          refine z_aload_n F dX5_ring_58 rfl (lv_at hl 0 rfl) ?_
          refine z_aload_n F dX5_ring_59 rfl (lv_at hl 1 rfl) ?_
          refine z_aload_n F dX5_ring_60 rfl (lv_at hl 1 rfl) ?_
          refine z_get F hK hZ (8 + 8 * j) (dC_s (by omega)) (shp_seat j hj) (by decide) rfl hin6 3 (by decide) mX5_ring_33 rfl rfl dX5_ring_61 ?_
          have r_1 := hZ.2.1.1 (8 + 8 * j) (3)
          refine z_topI (show G1 (8 + 8 * j) 3 = X1 67 (20 * (j : Int) + 1) from sf1.2.2.2.1) ?_
          refine z_iconst F dX5_ring_64 ?_
          refine z_iadd F dX5_ring_65 ?_
          have hst : (ringM X j k) = (startsM X1 j (X1 67 (20 * (j : Int) + 1) + 1)) := by unfold ringM; rw [← hX1, if_pos c_5, if_neg (by omega), if_neg (by omega), if_pos (by omega)]
          have hue : mU mm (startsM X1 j (X1 67 (20 * (j : Int) + 1) + 1)) = mU mm (ringM X j k) := by rw [hst]
          have huC1 := mU_c mm (startsM X1 j (X1 67 (20 * (j : Int) + 1) + 1))
          refine z_backv hZ (va_runV (As := [.ref (w.2.1 + (8 + 8 * j)), .int (zI (X1 67 (20 * (j : Int) + 1) + 1))]) (rest := []) F (k_X5_start l w A hA mm G1 X1 hM1 hI1 j (by omega) (by omega) (X1 67 (20 * (j : Int) + 1) + 1) (by omega)) (cwV 2 F.2.2.2.2 gX5_ring_X5_start rfl rfl rfl (by decide +kernel) ⟨Nat.le_of_ble_eq_true rfl, Nat.le_of_ble_eq_true rfl⟩) (z_preV hK hZ (6) (dC_s (by omega)) rfl (by decide) rfl _) rfl rfl hl.1 rfl (lv_room (Nat.le_of_ble_eq_true rfl)) dX5_ring_66 ⟨by show 0 + 0 + (mU mm (startsM X1 j (X1 67 (20 * (j : Int) + 1) + 1)) - mm) ≤ (mU mm (ringM X j k) - mm); omega, by show 0 + 0 + (8 * (mU mm (startsM X1 j (X1 67 (20 * (j : Int) + 1) + 1)) - mm)) ≤ (8 * (mU mm (ringM X j k) - mm)); omega⟩) (fun C1 H locs hC1 hZ => ?_)
          have hfin : Sim (C1) (ringM X j k) (mU mm (ringM X j k)) := by rw [hst]; exact hC1
          rw [hue] at hZ
          exact z_vret F hr hlocks hZ hfin dX5_ring_69 (by omega) (by omega)
      · skip
        refine z_aload_n F dX5_ring_35 rfl (lv_at hl 1 rfl) ?_
        refine z_get F hK hZ (8 + 8 * j) (dC_s (by omega)) (shp_seat j hj) (by decide) rfl hin6 4 (by decide) mX5_ring_25 rfl rfl dX5_ring_36 ?_
        have r_2 := hZ.2.1.1 (8 + 8 * j) (4)
        refine z_topI (show G1 (8 + 8 * j) 4 = X1 67 (20 * (j : Int) + 2) from sf1.2.2.2.2.1) ?_
        refine z_iconst F dX5_ring_39 ?_
        refine z_icmp_ne (tgt := 53) F (by omega) (by omega) dX5_ring_40 (by decide) (fun c_40 => ?_) (fun c_40 => ?_)
        · skip
          refine z_iload_n F dX5_ring_53 rfl (lv_at hl 2 rfl) ?_
          refine z_iconst F dX5_ring_54 ?_
          refine z_icmp_ne (tgt := 69) F (by omega) (by omega) dX5_ring_55 (by decide) (fun c_55 => ?_) (fun c_55 => ?_)
          · skip
            have hst : (ringM X j k) = X1 := by unfold ringM; rw [← hX1]; first | rw [if_neg (show ¬ _ from c_5)] | rw [if_pos (show _ from c_5), if_neg (by omega), if_neg (by omega), if_neg (by omega)]
            have hue : mm = mU mm (ringM X j k) := by rw [hst, mU_self (by rw [h64]; omega)]
            have hfin : Sim (G1) (ringM X j k) (mU mm (ringM X j k)) := by rw [← hue, hst]; exact hM1
            rw [hue] at hZ
            exact z_vret F hr hlocks hZ hfin dX5_ring_69 (by omega) (by omega)
          · skip
            refine z_aload_n F dX5_ring_58 rfl (lv_at hl 0 rfl) ?_
            refine z_aload_n F dX5_ring_59 rfl (lv_at hl 1 rfl) ?_
            refine z_aload_n F dX5_ring_60 rfl (lv_at hl 1 rfl) ?_
            refine z_get F hK hZ (8 + 8 * j) (dC_s (by omega)) (shp_seat j hj) (by decide) rfl hin6 3 (by decide) mX5_ring_33 rfl rfl dX5_ring_61 ?_
            have r_3 := hZ.2.1.1 (8 + 8 * j) (3)
            refine z_topI (show G1 (8 + 8 * j) 3 = X1 67 (20 * (j : Int) + 1) from sf1.2.2.2.1) ?_
            refine z_iconst F dX5_ring_64 ?_
            refine z_iadd F dX5_ring_65 ?_
            have hst : (ringM X j k) = (startsM X1 j (X1 67 (20 * (j : Int) + 1) + 1)) := by unfold ringM; rw [← hX1, if_pos c_5, if_neg (by omega), if_neg (by omega), if_pos (by omega)]
            have hue : mU mm (startsM X1 j (X1 67 (20 * (j : Int) + 1) + 1)) = mU mm (ringM X j k) := by rw [hst]
            have huC2 := mU_c mm (startsM X1 j (X1 67 (20 * (j : Int) + 1) + 1))
            refine z_backv hZ (va_runV (As := [.ref (w.2.1 + (8 + 8 * j)), .int (zI (X1 67 (20 * (j : Int) + 1) + 1))]) (rest := []) F (k_X5_start l w A hA mm G1 X1 hM1 hI1 j (by omega) (by omega) (X1 67 (20 * (j : Int) + 1) + 1) (by omega)) (cwV 2 F.2.2.2.2 gX5_ring_X5_start rfl rfl rfl (by decide +kernel) ⟨Nat.le_of_ble_eq_true rfl, Nat.le_of_ble_eq_true rfl⟩) (z_preV hK hZ (6) (dC_s (by omega)) rfl (by decide) rfl _) rfl rfl hl.1 rfl (lv_room (Nat.le_of_ble_eq_true rfl)) dX5_ring_66 ⟨by show 0 + 0 + (mU mm (startsM X1 j (X1 67 (20 * (j : Int) + 1) + 1)) - mm) ≤ (mU mm (ringM X j k) - mm); omega, by show 0 + 0 + (8 * (mU mm (startsM X1 j (X1 67 (20 * (j : Int) + 1) + 1)) - mm)) ≤ (8 * (mU mm (ringM X j k) - mm)); omega⟩) (fun C2 H locs hC2 hZ => ?_)
            have hfin : Sim (C2) (ringM X j k) (mU mm (ringM X j k)) := by rw [hst]; exact hC2
            rw [hue] at hZ
            exact z_vret F hr hlocks hZ hfin dX5_ring_69 (by omega) (by omega)
        · skip
          refine z_aload_n F dX5_ring_43 rfl (lv_at hl 0 rfl) ?_
          refine z_aload_n F dX5_ring_44 rfl (lv_at hl 1 rfl) ?_
          refine z_iconst F dX5_ring_45 ?_
          refine z_iconst F dX5_ring_46 ?_
          have hst : (ringM X j k) = (castsM X1 j 2 (-1)) := by unfold ringM; rw [← hX1, if_pos c_5, if_neg (by omega), if_pos ⟨by omega, by omega⟩]
          have hue : mU mm (castsM X1 j 2 (-1)) = mU mm (ringM X j k) := by rw [hst]
          have huC3 := mU_c mm (castsM X1 j 2 (-1))
          refine z_backv hZ (va_runV (As := [.ref (w.2.1 + (8 + 8 * j)), .int (zI (2)), .int (zI (-1))]) (rest := []) F (k_X5_vote l w A hA mm G1 X1 hM1 hI1 j (by omega) (by omega) 2 (-1) (by omega) (by omega)) (cwV 3 F.2.2.2.2 gX5_ring_X5_vote rfl rfl rfl (by decide +kernel) ⟨Nat.le_of_ble_eq_true rfl, Nat.le_of_ble_eq_true rfl⟩) (z_preV hK hZ (6) (dC_s (by omega)) rfl (by decide) rfl _) rfl rfl hl.1 rfl (lv_room (Nat.le_of_ble_eq_true rfl)) dX5_ring_47 ⟨by show 0 + 0 + (mU mm (castsM X1 j 2 (-1)) - mm) ≤ (mU mm (ringM X j k) - mm); omega, by show 0 + 0 + (8 * (mU mm (castsM X1 j 2 (-1)) - mm)) ≤ (8 * (mU mm (ringM X j k) - mm)); omega⟩) (fun C3 H locs hC3 hZ => ?_)
          refine lv_goto (tgt := 69) F.1 F.2.1 dX5_ring_50 (by decide) ?_
          have hfin : Sim (C3) (ringM X j k) (mU mm (ringM X j k)) := by rw [hst]; exact hC3
          rw [hue] at hZ
          exact z_vret F hr hlocks hZ hfin dX5_ring_69 (by omega) (by omega)
    · skip
      refine z_aload_n F dX5_ring_13 rfl (lv_at hl 1 rfl) ?_
      refine z_get F hK hZ (8 + 8 * j) (dC_s (by omega)) (shp_seat j hj) (by decide) rfl hin6 4 (by decide) mX5_ring_25 rfl rfl dX5_ring_14 ?_
      have r_4 := hZ.2.1.1 (8 + 8 * j) (4)
      refine z_topI (show G1 (8 + 8 * j) 4 = X1 67 (20 * (j : Int) + 2) from sf1.2.2.2.2.1) ?_
      refine z_if_ne (tgt := 30) F (by omega) dX5_ring_17 (by decide) (fun c_17 => ?_) (fun c_17 => ?_)
      · skip
        refine z_iload_n F dX5_ring_30 rfl (lv_at hl 2 rfl) ?_
        refine z_iconst F dX5_ring_31 ?_
        refine z_icmp_ne (tgt := 53) F (by omega) (by omega) dX5_ring_32 (by decide) (fun c_32 => ?_) (fun c_32 => ?_)
        · skip
          refine z_iload_n F dX5_ring_53 rfl (lv_at hl 2 rfl) ?_
          refine z_iconst F dX5_ring_54 ?_
          refine z_icmp_ne (tgt := 69) F (by omega) (by omega) dX5_ring_55 (by decide) (fun c_55 => ?_) (fun c_55 => ?_)
          · skip
            have hst : (ringM X j k) = X1 := by unfold ringM; rw [← hX1]; first | rw [if_neg (show ¬ _ from c_5)] | rw [if_pos (show _ from c_5), if_neg (by omega), if_neg (by omega), if_neg (by omega)]
            have hue : mm = mU mm (ringM X j k) := by rw [hst, mU_self (by rw [h64]; omega)]
            have hfin : Sim (G1) (ringM X j k) (mU mm (ringM X j k)) := by rw [← hue, hst]; exact hM1
            rw [hue] at hZ
            exact z_vret F hr hlocks hZ hfin dX5_ring_69 (by omega) (by omega)
          · skip
            refine z_aload_n F dX5_ring_58 rfl (lv_at hl 0 rfl) ?_
            refine z_aload_n F dX5_ring_59 rfl (lv_at hl 1 rfl) ?_
            refine z_aload_n F dX5_ring_60 rfl (lv_at hl 1 rfl) ?_
            refine z_get F hK hZ (8 + 8 * j) (dC_s (by omega)) (shp_seat j hj) (by decide) rfl hin6 3 (by decide) mX5_ring_33 rfl rfl dX5_ring_61 ?_
            have r_5 := hZ.2.1.1 (8 + 8 * j) (3)
            refine z_topI (show G1 (8 + 8 * j) 3 = X1 67 (20 * (j : Int) + 1) from sf1.2.2.2.1) ?_
            refine z_iconst F dX5_ring_64 ?_
            refine z_iadd F dX5_ring_65 ?_
            have hst : (ringM X j k) = (startsM X1 j (X1 67 (20 * (j : Int) + 1) + 1)) := by unfold ringM; rw [← hX1, if_pos c_5, if_neg (by omega), if_neg (by omega), if_pos (by omega)]
            have hue : mU mm (startsM X1 j (X1 67 (20 * (j : Int) + 1) + 1)) = mU mm (ringM X j k) := by rw [hst]
            have huC4 := mU_c mm (startsM X1 j (X1 67 (20 * (j : Int) + 1) + 1))
            refine z_backv hZ (va_runV (As := [.ref (w.2.1 + (8 + 8 * j)), .int (zI (X1 67 (20 * (j : Int) + 1) + 1))]) (rest := []) F (k_X5_start l w A hA mm G1 X1 hM1 hI1 j (by omega) (by omega) (X1 67 (20 * (j : Int) + 1) + 1) (by omega)) (cwV 2 F.2.2.2.2 gX5_ring_X5_start rfl rfl rfl (by decide +kernel) ⟨Nat.le_of_ble_eq_true rfl, Nat.le_of_ble_eq_true rfl⟩) (z_preV hK hZ (6) (dC_s (by omega)) rfl (by decide) rfl _) rfl rfl hl.1 rfl (lv_room (Nat.le_of_ble_eq_true rfl)) dX5_ring_66 ⟨by show 0 + 0 + (mU mm (startsM X1 j (X1 67 (20 * (j : Int) + 1) + 1)) - mm) ≤ (mU mm (ringM X j k) - mm); omega, by show 0 + 0 + (8 * (mU mm (startsM X1 j (X1 67 (20 * (j : Int) + 1) + 1)) - mm)) ≤ (8 * (mU mm (ringM X j k) - mm)); omega⟩) (fun C4 H locs hC4 hZ => ?_)
            have hfin : Sim (C4) (ringM X j k) (mU mm (ringM X j k)) := by rw [hst]; exact hC4
            rw [hue] at hZ
            exact z_vret F hr hlocks hZ hfin dX5_ring_69 (by omega) (by omega)
        · skip
          refine z_aload_n F dX5_ring_35 rfl (lv_at hl 1 rfl) ?_
          refine z_get F hK hZ (8 + 8 * j) (dC_s (by omega)) (shp_seat j hj) (by decide) rfl hin6 4 (by decide) mX5_ring_25 rfl rfl dX5_ring_36 ?_
          have r_6 := hZ.2.1.1 (8 + 8 * j) (4)
          refine z_topI (show G1 (8 + 8 * j) 4 = X1 67 (20 * (j : Int) + 2) from sf1.2.2.2.2.1) ?_
          refine z_iconst F dX5_ring_39 ?_
          refine z_icmp_ne (tgt := 53) F (by omega) (by omega) dX5_ring_40 (by decide) (fun c_40 => ?_) (fun c_40 => ?_)
          · skip
            refine z_iload_n F dX5_ring_53 rfl (lv_at hl 2 rfl) ?_
            refine z_iconst F dX5_ring_54 ?_
            refine z_icmp_ne (tgt := 69) F (by omega) (by omega) dX5_ring_55 (by decide) (fun c_55 => ?_) (fun c_55 => ?_)
            · skip
              have hst : (ringM X j k) = X1 := by unfold ringM; rw [← hX1]; first | rw [if_neg (show ¬ _ from c_5)] | rw [if_pos (show _ from c_5), if_neg (by omega), if_neg (by omega), if_neg (by omega)]
              have hue : mm = mU mm (ringM X j k) := by rw [hst, mU_self (by rw [h64]; omega)]
              have hfin : Sim (G1) (ringM X j k) (mU mm (ringM X j k)) := by rw [← hue, hst]; exact hM1
              rw [hue] at hZ
              exact z_vret F hr hlocks hZ hfin dX5_ring_69 (by omega) (by omega)
            · skip
              refine z_aload_n F dX5_ring_58 rfl (lv_at hl 0 rfl) ?_
              refine z_aload_n F dX5_ring_59 rfl (lv_at hl 1 rfl) ?_
              refine z_aload_n F dX5_ring_60 rfl (lv_at hl 1 rfl) ?_
              refine z_get F hK hZ (8 + 8 * j) (dC_s (by omega)) (shp_seat j hj) (by decide) rfl hin6 3 (by decide) mX5_ring_33 rfl rfl dX5_ring_61 ?_
              have r_7 := hZ.2.1.1 (8 + 8 * j) (3)
              refine z_topI (show G1 (8 + 8 * j) 3 = X1 67 (20 * (j : Int) + 1) from sf1.2.2.2.1) ?_
              refine z_iconst F dX5_ring_64 ?_
              refine z_iadd F dX5_ring_65 ?_
              have hst : (ringM X j k) = (startsM X1 j (X1 67 (20 * (j : Int) + 1) + 1)) := by unfold ringM; rw [← hX1, if_pos c_5, if_neg (by omega), if_neg (by omega), if_pos (by omega)]
              have hue : mU mm (startsM X1 j (X1 67 (20 * (j : Int) + 1) + 1)) = mU mm (ringM X j k) := by rw [hst]
              have huC5 := mU_c mm (startsM X1 j (X1 67 (20 * (j : Int) + 1) + 1))
              refine z_backv hZ (va_runV (As := [.ref (w.2.1 + (8 + 8 * j)), .int (zI (X1 67 (20 * (j : Int) + 1) + 1))]) (rest := []) F (k_X5_start l w A hA mm G1 X1 hM1 hI1 j (by omega) (by omega) (X1 67 (20 * (j : Int) + 1) + 1) (by omega)) (cwV 2 F.2.2.2.2 gX5_ring_X5_start rfl rfl rfl (by decide +kernel) ⟨Nat.le_of_ble_eq_true rfl, Nat.le_of_ble_eq_true rfl⟩) (z_preV hK hZ (6) (dC_s (by omega)) rfl (by decide) rfl _) rfl rfl hl.1 rfl (lv_room (Nat.le_of_ble_eq_true rfl)) dX5_ring_66 ⟨by show 0 + 0 + (mU mm (startsM X1 j (X1 67 (20 * (j : Int) + 1) + 1)) - mm) ≤ (mU mm (ringM X j k) - mm); omega, by show 0 + 0 + (8 * (mU mm (startsM X1 j (X1 67 (20 * (j : Int) + 1) + 1)) - mm)) ≤ (8 * (mU mm (ringM X j k) - mm)); omega⟩) (fun C5 H locs hC5 hZ => ?_)
              have hfin : Sim (C5) (ringM X j k) (mU mm (ringM X j k)) := by rw [hst]; exact hC5
              rw [hue] at hZ
              exact z_vret F hr hlocks hZ hfin dX5_ring_69 (by omega) (by omega)
          · skip
            refine z_aload_n F dX5_ring_43 rfl (lv_at hl 0 rfl) ?_
            refine z_aload_n F dX5_ring_44 rfl (lv_at hl 1 rfl) ?_
            refine z_iconst F dX5_ring_45 ?_
            refine z_iconst F dX5_ring_46 ?_
            have hst : (ringM X j k) = (castsM X1 j 2 (-1)) := by unfold ringM; rw [← hX1, if_pos c_5, if_neg (by omega), if_pos ⟨by omega, by omega⟩]
            have hue : mU mm (castsM X1 j 2 (-1)) = mU mm (ringM X j k) := by rw [hst]
            have huC6 := mU_c mm (castsM X1 j 2 (-1))
            refine z_backv hZ (va_runV (As := [.ref (w.2.1 + (8 + 8 * j)), .int (zI (2)), .int (zI (-1))]) (rest := []) F (k_X5_vote l w A hA mm G1 X1 hM1 hI1 j (by omega) (by omega) 2 (-1) (by omega) (by omega)) (cwV 3 F.2.2.2.2 gX5_ring_X5_vote rfl rfl rfl (by decide +kernel) ⟨Nat.le_of_ble_eq_true rfl, Nat.le_of_ble_eq_true rfl⟩) (z_preV hK hZ (6) (dC_s (by omega)) rfl (by decide) rfl _) rfl rfl hl.1 rfl (lv_room (Nat.le_of_ble_eq_true rfl)) dX5_ring_47 ⟨by show 0 + 0 + (mU mm (castsM X1 j 2 (-1)) - mm) ≤ (mU mm (ringM X j k) - mm); omega, by show 0 + 0 + (8 * (mU mm (castsM X1 j 2 (-1)) - mm)) ≤ (8 * (mU mm (ringM X j k) - mm)); omega⟩) (fun C6 H locs hC6 hZ => ?_)
            refine lv_goto (tgt := 69) F.1 F.2.1 dX5_ring_50 (by decide) ?_
            have hfin : Sim (C6) (ringM X j k) (mU mm (ringM X j k)) := by rw [hst]; exact hC6
            rw [hue] at hZ
            exact z_vret F hr hlocks hZ hfin dX5_ring_69 (by omega) (by omega)
      · skip
        refine z_aload_n F dX5_ring_20 rfl (lv_at hl 0 rfl) ?_
        refine z_aload_n F dX5_ring_21 rfl (lv_at hl 1 rfl) ?_
        refine z_iconst F dX5_ring_22 ?_
        refine z_iconst F dX5_ring_23 ?_
        have hst : (ringM X j k) = (castsM X1 j 1 (-1)) := by unfold ringM; rw [← hX1, if_pos c_5, if_pos ⟨by omega, by omega⟩]
        have hue : mU mm (castsM X1 j 1 (-1)) = mU mm (ringM X j k) := by rw [hst]
        have huC7 := mU_c mm (castsM X1 j 1 (-1))
        refine z_backv hZ (va_runV (As := [.ref (w.2.1 + (8 + 8 * j)), .int (zI (1)), .int (zI (-1))]) (rest := []) F (k_X5_vote l w A hA mm G1 X1 hM1 hI1 j (by omega) (by omega) 1 (-1) (by omega) (by omega)) (cwV 3 F.2.2.2.2 gX5_ring_X5_vote rfl rfl rfl (by decide +kernel) ⟨Nat.le_of_ble_eq_true rfl, Nat.le_of_ble_eq_true rfl⟩) (z_preV hK hZ (6) (dC_s (by omega)) rfl (by decide) rfl _) rfl rfl hl.1 rfl (lv_room (Nat.le_of_ble_eq_true rfl)) dX5_ring_24 ⟨by show 0 + 0 + (mU mm (castsM X1 j 1 (-1)) - mm) ≤ (mU mm (ringM X j k) - mm); omega, by show 0 + 0 + (8 * (mU mm (castsM X1 j 1 (-1)) - mm)) ≤ (8 * (mU mm (ringM X j k) - mm)); omega⟩) (fun C7 H locs hC7 hZ => ?_)
        refine lv_goto (tgt := 69) F.1 F.2.1 dX5_ring_27 (by decide) ?_
        have hfin : Sim (C7) (ringM X j k) (mU mm (ringM X j k)) := by rw [hst]; exact hC7
        rw [hue] at hZ
        exact z_vret F hr hlocks hZ hfin dX5_ring_69 (by omega) (by omega)
  · skip
    have hst : (ringM X j k) = X1 := by unfold ringM; rw [← hX1]; first | rw [if_neg (show ¬ _ from c_5)] | rw [if_pos (show _ from c_5), if_neg (by omega), if_neg (by omega), if_neg (by omega)]
    have hue : mm = mU mm (ringM X j k) := by rw [hst, mU_self (by rw [h64]; omega)]
    have hfin : Sim (G1) (ringM X j k) (mU mm (ringM X j k)) := by rw [← hue, hst]; exact hM1
    rw [hue] at hZ
    exact z_vret F hr hlocks hZ hfin dX5_ring_8 (by omega) (by omega)

theorem mX5_givesUp_25 : Cond.fieldLink RX5 25 "LockedChain$Seat" "step" "I" ∈ wsX5_givesUp := by decide +kernel
theorem mX5_givesUp_33 : Cond.fieldLink RX5 33 "LockedChain$Seat" "round" "I" ∈ wsX5_givesUp := by decide +kernel
set_option maxHeartbeats 4000000 in
set_option maxRecDepth 100000 in
theorem k_X5_givesUp (l : Launch) (w : zW) (A : Nat → Prop) (hA : ∀ i, i < 64 ∨ 71 ≤ i → A (w.2.1 + i)) (mm : Nat) (G X : zM) (hM : Sim G X mm) (hI : Inv X) (j : Nat) (hj0 : (j : Int) < X 64 0) (hh : X 67 (20 * (j : Int) + 0) ≤ 5) : Met l yX5_givesUp wsX5_givesUp { frames := 5, cells := (mU mm ((nilM X j).getD X) - mm), slots := (8 * (mU mm ((nilM X j).getD X) - mm)), locals := 108 } (zPre w (dC mm) (w.2.1 + (71 + mm)) G [.ref (w.2.1 + (6)), .ref (w.2.1 + (8 + 8 * j))]) (zQi w (dC (mU mm ((nilM X j).getD X))) (w.2.1 + (71 + mU mm ((nilM X j).getD X))) (bI ((nilM X j).isSome = true)) (fun C => Sim C ((nilM X j).getD X) (mU mm ((nilM X j).getD X))) A) ((mU mm ((nilM X j).getD X) - mm)) ((8 * (mU mm ((nilM X j).getD X) - mm))) A := by
  refine Met.ofW (cc := cX5_givesUp) (maxL := 2) (ret := (some .boolean)) (by decide) rfl ?_
  intro p e s m args below meth c s₁ B hml hv
  obtain ⟨rfl, hsz, hP, hK⟩ := hv
  have F : CallFix p m c cX5_givesUp 2 s _ wsX5_givesUp RX5 := ⟨B.exec, B.bytes, hml, findClass_of_methodNamed B.named, atoms_spec (ws := wsX5_givesUp) B.pre⟩
  have hr := B.returns
  have hlocks := B.notSynchronized
  have hZ : Zs w (dC mm) A s.heap (w.2.1 + (71 + mm)) G s.heap [] := ⟨hsz, hP, va_S.rf⟩
  have hl := lv_entry ([.ref (w.2.1 + (6)), .ref (w.2.1 + (8 + 8 * j))]) (n := 2) (Nat.le_of_ble_eq_true rfl)
  rw [lg_entry_eq]
  generalize (lg_sl ([.ref (w.2.1 + (6)), .ref (w.2.1 + (8 + 8 * j))]) ++ List.replicate (2 - (lg_sl ([.ref (w.2.1 + (6)), .ref (w.2.1 + (8 + 8 * j))])).length) Slot.unset).toArray = ls at hl ⊢
  have hl : lv_has ls 2 [(0, .ref (w.2.1 + (6))), (1, .ref (w.2.1 + (8 + 8 * j)))] := hl
  have hin6 : ∀ v ∈ u_ws RX6 TX6 15, v ∈ wsX5_givesUp := by decide +kernel
  have hn := hI.1
  have hLL := hI.2.2.2.1
  have hj : j < 7 := by omega
  have hS : PostS G X mm := hM.1
  obtain ⟨hS1, hS2, hS3, hS4, hS5⟩ := hM.1
  have hC0 := hM.2.1
  have sf := Sim_f hM hj
  have sr := seat_rng hI (s := (j : Int)) (by omega)
  have hu := mU_c mm ((nilM X j).getD X)
  refine z_aload_n F dX5_givesUp_0 rfl (lv_at hl 1 rfl) ?_
  refine z_get F hK hZ (8 + 8 * j) (dC_s (by omega)) (shp_seat j hj) (by decide) rfl hin6 4 (by decide) mX5_givesUp_25 rfl rfl dX5_givesUp_1 ?_
  have r_1 := hZ.2.1.1 (8 + 8 * j) (4)
  refine z_topI (show G (8 + 8 * j) 4 = X 67 (20 * (j : Int) + 2) from sf.2.2.2.2.1) ?_
  refine z_iconst F dX5_givesUp_4 ?_
  refine z_icmp_ne (tgt := 22) F (by omega) (by omega) dX5_givesUp_5 (by decide) (fun c_5 => ?_) (fun c_5 => ?_)
  · skip
    refine z_iconst F dX5_givesUp_22 ?_
    have hno : nilM X j = none := nil_f (by omega)
    have hst : ((nilM X j).getD X) = X := by rw [hno]; rfl
    have hue : mm = mU mm ((nilM X j).getD X) := by rw [hst, mU_self (by omega)]
    have hfin : Sim (G) ((nilM X j).getD X) (mU mm ((nilM X j).getD X)) := by rw [← hue, hst]; exact hM
    rw [hue] at hZ
    exact z_zret F hr hlocks hZ (by first | exact bI_0 (by rw [hno]; exact fun z => by cases z) | exact bI_1 (by rw [hso]; rfl)) (by omega) hfin dX5_givesUp_23 (by omega) (by omega)
  · skip
    refine z_aload_n F dX5_givesUp_8 rfl (lv_at hl 0 rfl) ?_
    refine z_aload_n F dX5_givesUp_9 rfl (lv_at hl 1 rfl) ?_
    refine z_iconst F dX5_givesUp_10 ?_
    refine z_aload_n F dX5_givesUp_11 rfl (lv_at hl 1 rfl) ?_
    refine z_get F hK hZ (8 + 8 * j) (dC_s (by omega)) (shp_seat j hj) (by decide) rfl hin6 3 (by decide) mX5_givesUp_33 rfl rfl dX5_givesUp_12 ?_
    have r_2 := hZ.2.1.1 (8 + 8 * j) (3)
    refine z_topI (show G (8 + 8 * j) 3 = X 67 (20 * (j : Int) + 1) from sf.2.2.2.1) ?_
    refine z_iconst F dX5_givesUp_15 ?_
    refine z_bxi hZ (va_runV (As := [.ref (w.2.1 + (8 + 8 * j)), .int (zI (1)), .int (zI (X 67 (20 * (j : Int) + 1))), .int (zI (-1))]) (rest := []) F (k_X5_hasMany l w (dC mm) A (dC_A hA) (w.2.1 + (71 + mm)) G X mm (fun i h => dC_s h) (fun i h => dC_l h) hM hI j hj0 (by omega) 1 (X 67 (20 * (j : Int) + 1)) (-1) (by omega) (by omega) (by omega)) (cwV 4 F.2.2.2.2 gX5_givesUp_X5_hasMany rfl rfl rfl (by decide +kernel) ⟨Nat.le_of_ble_eq_true rfl, Nat.le_of_ble_eq_true rfl⟩) (z_preV hK hZ (6) (dC_s (by omega)) rfl (by decide) rfl _) rfl rfl hl.1 rfl (lv_room (Nat.le_of_ble_eq_true rfl)) dX5_givesUp_16 ⟨by show 0 + (0) ≤ (mU mm ((nilM X j).getD X) - mm); omega, by show 0 + (0) ≤ (8 * (mU mm ((nilM X j).getD X) - mm)); omega⟩) (fun H locs hZ => ?_)
    refine z_ifB_ne (tgt := 24) F dX5_givesUp_19 (by decide) (fun c_19 => ?_) (fun c_19 => ?_)
    · skip
      refine z_aload_n F dX5_givesUp_24 rfl (lv_at hl 0 rfl) ?_
      refine z_aload_n F dX5_givesUp_25 rfl (lv_at hl 1 rfl) ?_
      refine z_iconst F dX5_givesUp_26 ?_
      refine z_iconst F dX5_givesUp_27 ?_
      have hso : nilM X j = some (castsM X j 2 (-1)) := nil_t (by omega) c_19
      have hst : ((nilM X j).getD X) = (castsM X j 2 (-1)) := by rw [hso]; rfl
      have hue : mU mm (castsM X j 2 (-1)) = mU mm ((nilM X j).getD X) := by rw [hst]
      have huC1 := mU_c mm (castsM X j 2 (-1))
      refine z_backv hZ (va_runV (As := [.ref (w.2.1 + (8 + 8 * j)), .int (zI (2)), .int (zI (-1))]) (rest := []) F (k_X5_vote l w A hA mm G X hM hI j (by omega) (by omega) 2 (-1) (by omega) (by omega)) (cwV 3 F.2.2.2.2 gX5_givesUp_X5_vote rfl rfl rfl (by decide +kernel) ⟨Nat.le_of_ble_eq_true rfl, Nat.le_of_ble_eq_true rfl⟩) (z_preV hK hZ (6) (dC_s (by omega)) rfl (by decide) rfl _) rfl rfl hl.1 rfl (lv_room (Nat.le_of_ble_eq_true rfl)) dX5_givesUp_28 ⟨by show 0 + 0 + (mU mm (castsM X j 2 (-1)) - mm) ≤ (mU mm ((nilM X j).getD X) - mm); omega, by show 0 + 0 + (8 * (mU mm (castsM X j 2 (-1)) - mm)) ≤ (8 * (mU mm ((nilM X j).getD X) - mm)); omega⟩) (fun C1 H locs hC1 hZ => ?_)
      refine z_iconst F dX5_givesUp_31 ?_
      have hfin : Sim (C1) ((nilM X j).getD X) (mU mm ((nilM X j).getD X)) := by rw [hst]; exact hC1
      rw [hue] at hZ
      exact z_zret F hr hlocks hZ (by first | exact bI_0 (by rw [hno]; exact fun z => by cases z) | exact bI_1 (by rw [hso]; rfl)) (by omega) hfin dX5_givesUp_32 (by omega) (by omega)
    · skip
      refine z_iconst F dX5_givesUp_22 ?_
      have hno : nilM X j = none := nil_f (by omega)
      have hst : ((nilM X j).getD X) = X := by rw [hno]; rfl
      have hue : mm = mU mm ((nilM X j).getD X) := by rw [hst, mU_self (by omega)]
      have hfin : Sim (G) ((nilM X j).getD X) (mU mm ((nilM X j).getD X)) := by rw [← hue, hst]; exact hM
      rw [hue] at hZ
      exact z_zret F hr hlocks hZ (by first | exact bI_0 (by rw [hno]; exact fun z => by cases z) | exact bI_1 (by rw [hso]; rfl)) (by omega) hfin dX5_givesUp_23 (by omega) (by omega)

theorem mX5_timesPrevotes_25 : Cond.fieldLink RX5 25 "LockedChain$Seat" "step" "I" ∈ wsX5_timesPrevotes := by decide +kernel
theorem mX5_timesPrevotes_33 : Cond.fieldLink RX5 33 "LockedChain$Seat" "round" "I" ∈ wsX5_timesPrevotes := by decide +kernel
theorem mX5_timesPrevotes_186 : Cond.fieldLink RX5 186 "LockedChain$Seat" "didTimePrevotes" "Z" ∈ wsX5_timesPrevotes := by decide +kernel
set_option maxHeartbeats 4000000 in
set_option maxRecDepth 100000 in
theorem k_X5_timesPrevotes (l : Launch) (w : zW) (A : Nat → Prop) (hA : ∀ i, i < 64 ∨ 71 ≤ i → A (w.2.1 + i)) (mm : Nat) (G X : zM) (hM : Sim G X mm) (hI : Inv X) (j : Nat) (hj0 : (j : Int) < X 64 0) (hh : X 67 (20 * (j : Int) + 0) ≤ 5) : Met l yX5_timesPrevotes wsX5_timesPrevotes { frames := 3, cells := (mU mm ((tim1M X j).getD X) - mm), slots := (8 * (mU mm ((tim1M X j).getD X) - mm)), locals := 70 } (zPre w (dC mm) (w.2.1 + (71 + mm)) G [.ref (w.2.1 + (6)), .ref (w.2.1 + (8 + 8 * j))]) (zQi w (dC (mU mm ((tim1M X j).getD X))) (w.2.1 + (71 + mU mm ((tim1M X j).getD X))) (bI ((tim1M X j).isSome = true)) (fun C => Sim C ((tim1M X j).getD X) (mU mm ((tim1M X j).getD X))) A) ((mU mm ((tim1M X j).getD X) - mm)) ((8 * (mU mm ((tim1M X j).getD X) - mm))) A := by
  refine Met.ofW (cc := cX5_timesPrevotes) (maxL := 2) (ret := (some .boolean)) (by decide) rfl ?_
  intro p e s m args below meth c s₁ B hml hv
  obtain ⟨rfl, hsz, hP, hK⟩ := hv
  have F : CallFix p m c cX5_timesPrevotes 2 s _ wsX5_timesPrevotes RX5 := ⟨B.exec, B.bytes, hml, findClass_of_methodNamed B.named, atoms_spec (ws := wsX5_timesPrevotes) B.pre⟩
  have hr := B.returns
  have hlocks := B.notSynchronized
  have hZ : Zs w (dC mm) A s.heap (w.2.1 + (71 + mm)) G s.heap [] := ⟨hsz, hP, va_S.rf⟩
  have hl := lv_entry ([.ref (w.2.1 + (6)), .ref (w.2.1 + (8 + 8 * j))]) (n := 2) (Nat.le_of_ble_eq_true rfl)
  rw [lg_entry_eq]
  generalize (lg_sl ([.ref (w.2.1 + (6)), .ref (w.2.1 + (8 + 8 * j))]) ++ List.replicate (2 - (lg_sl ([.ref (w.2.1 + (6)), .ref (w.2.1 + (8 + 8 * j))])).length) Slot.unset).toArray = ls at hl ⊢
  have hl : lv_has ls 2 [(0, .ref (w.2.1 + (6))), (1, .ref (w.2.1 + (8 + 8 * j)))] := hl
  have hin6 : ∀ v ∈ u_ws RX6 TX6 15, v ∈ wsX5_timesPrevotes := by decide +kernel
  have hn := hI.1
  have hLL := hI.2.2.2.1
  have hj : j < 7 := by omega
  have hS : PostS G X mm := hM.1
  obtain ⟨hS1, hS2, hS3, hS4, hS5⟩ := hM.1
  have hC0 := hM.2.1
  have sf := Sim_f hM hj
  have sr := seat_rng hI (s := (j : Int)) (by omega)
  have hu := mU_c mm ((tim1M X j).getD X)
  have fl := flag_rng hI (s := (j : Int)) (by omega)
  have sfl := Sim_fl hM hj hh
  refine z_aload_n F dX5_timesPrevotes_0 rfl (lv_at hl 1 rfl) ?_
  refine z_get F hK hZ (8 + 8 * j) (dC_s (by omega)) (shp_seat j hj) (by decide) rfl hin6 4 (by decide) mX5_timesPrevotes_25 rfl rfl dX5_timesPrevotes_1 ?_
  have r_1 := hZ.2.1.1 (8 + 8 * j) (4)
  refine z_topI (show G (8 + 8 * j) 4 = X 67 (20 * (j : Int) + 2) from sf.2.2.2.2.1) ?_
  refine z_iconst F dX5_timesPrevotes_4 ?_
  refine z_icmp_ne (tgt := 30) F (by omega) (by omega) dX5_timesPrevotes_5 (by decide) (fun c_5 => ?_) (fun c_5 => ?_)
  · skip
    refine z_iconst F dX5_timesPrevotes_30 ?_
    have hno : tim1M X j = none := tim1_f (by omega)
    have hst : ((tim1M X j).getD X) = X := by rw [hno]; rfl
    have hue : mm = mU mm ((tim1M X j).getD X) := by rw [hst, mU_self (by omega)]
    have hfin : Sim (G) ((tim1M X j).getD X) (mU mm ((tim1M X j).getD X)) := by rw [← hue, hst]; exact hM
    rw [hue] at hZ
    exact z_zret F hr hlocks hZ (by first | exact bI_0 (by rw [hno]; exact fun z => by cases z) | exact bI_1 (by rw [hso]; rfl)) (by omega) hfin dX5_timesPrevotes_31 (by omega) (by omega)
  · skip
    refine z_aload_n F dX5_timesPrevotes_8 rfl (lv_at hl 1 rfl) ?_
    refine z_get F hK hZ (8 + 8 * j) (dC_s (by omega)) (shp_seat j hj) (by decide) rfl hin6 7 (by decide) mX5_timesPrevotes_186 rfl rfl dX5_timesPrevotes_9 ?_
    have r_2 := hZ.2.1.1 (8 + 8 * j) (7)
    refine z_if_ne (tgt := 30) F (by omega) dX5_timesPrevotes_12 (by decide) (fun c_12 => ?_) (fun c_12 => ?_)
    · skip
      refine z_iconst F dX5_timesPrevotes_30 ?_
      have hno : tim1M X j = none := tim1_f (by omega)
      have hst : ((tim1M X j).getD X) = X := by rw [hno]; rfl
      have hue : mm = mU mm ((tim1M X j).getD X) := by rw [hst, mU_self (by omega)]
      have hfin : Sim (G) ((tim1M X j).getD X) (mU mm ((tim1M X j).getD X)) := by rw [← hue, hst]; exact hM
      rw [hue] at hZ
      exact z_zret F hr hlocks hZ (by first | exact bI_0 (by rw [hno]; exact fun z => by cases z) | exact bI_1 (by rw [hso]; rfl)) (by omega) hfin dX5_timesPrevotes_31 (by omega) (by omega)
    · skip
      refine z_aload_n F dX5_timesPrevotes_15 rfl (lv_at hl 0 rfl) ?_
      refine z_aload_n F dX5_timesPrevotes_16 rfl (lv_at hl 1 rfl) ?_
      refine z_iconst F dX5_timesPrevotes_17 ?_
      refine z_aload_n F dX5_timesPrevotes_18 rfl (lv_at hl 1 rfl) ?_
      refine z_get F hK hZ (8 + 8 * j) (dC_s (by omega)) (shp_seat j hj) (by decide) rfl hin6 3 (by decide) mX5_timesPrevotes_33 rfl rfl dX5_timesPrevotes_19 ?_
      have r_3 := hZ.2.1.1 (8 + 8 * j) (3)
      refine z_topI (show G (8 + 8 * j) 3 = X 67 (20 * (j : Int) + 1) from sf.2.2.2.1) ?_
      refine z_bipush F (by decide) dX5_timesPrevotes_22 ?_
      refine z_bxi hZ (va_runV (As := [.ref (w.2.1 + (8 + 8 * j)), .int (zI (1)), .int (zI (X 67 (20 * (j : Int) + 1))), .int (zI (-2))]) (rest := []) F (k_X5_hasMany l w (dC mm) A (dC_A hA) (w.2.1 + (71 + mm)) G X mm (fun i h => dC_s h) (fun i h => dC_l h) hM hI j hj0 (by omega) 1 (X 67 (20 * (j : Int) + 1)) (-2) (by omega) (by omega) (by omega)) (cwV 4 F.2.2.2.2 gX5_timesPrevotes_X5_hasMany rfl rfl rfl (by decide +kernel) ⟨Nat.le_of_ble_eq_true rfl, Nat.le_of_ble_eq_true rfl⟩) (z_preV hK hZ (6) (dC_s (by omega)) rfl (by decide) rfl _) rfl rfl hl.1 rfl (lv_room (Nat.le_of_ble_eq_true rfl)) dX5_timesPrevotes_24 ⟨by show 0 + (0) ≤ (mU mm ((tim1M X j).getD X) - mm); omega, by show 0 + (0) ≤ (8 * (mU mm ((tim1M X j).getD X) - mm)); omega⟩) (fun H locs hZ => ?_)
      refine z_ifB_ne (tgt := 32) F dX5_timesPrevotes_27 (by decide) (fun c_27 => ?_) (fun c_27 => ?_)
      · skip
        refine z_aload_n F dX5_timesPrevotes_32 rfl (lv_at hl 1 rfl) ?_
        refine z_iconst F dX5_timesPrevotes_33 ?_
        refine z_put (z := 1) F hK hZ (dC_A hA) (8 + 8 * j) (dC_s (by omega)) (shp_seat j hj) (by decide) rfl hin6 tyX6 tyX6_ok nmX6 7 (by decide) mX5_timesPrevotes_186 rfl rfl rfl rfl (by omega) (kz := 7) rfl rfl (Nat.le_of_ble_eq_true rfl) dX5_timesPrevotes_34 (fun H locs hZ => ?_)
        obtain ⟨G1, hG1⟩ : ∃ q : zM, q = up G (8 + 8 * j) (7) (1) := ⟨_, rfl⟩
        obtain ⟨X1, hX1⟩ : ∃ q : zM, q = setM X j 9 1 := ⟨_, rfl⟩
        have hM1 : Sim G1 X1 mm := by rw [hG1, hX1]; exact Sim_f7 hM hj
        have hI1 : Inv X1 := by rw [hX1]; exact (Nx_seat6 (v := 0) hI (by omega) (by omega)).1
        rw [← hG1] at hZ
        have sf1 := Sim_f hM1 hj
        have hC01 := hM1.2.1
        have h64 : X1 64 = X 64 := by rw [hX1, setM_cell _ _ _ _ (by decide)]
        have h640 : X1 64 0 = X 64 0 := by rw [h64]
        have h647 : X1 64 7 = X 64 7 := by rw [h64]
        have sr1 := seat_rng hI1 (s := (j : Int)) (by omega)
        refine z_aload_n F dX5_timesPrevotes_37 rfl (lv_at hl 1 rfl) ?_
        refine z_iconst F dX5_timesPrevotes_38 ?_
        have hs2 := Sim_timer hM1 (k := 1) hj (by omega)
        refine z_bxv hZ (va_runV (As := [.int (zI (1))]) (rest := []) F (k_X6_set l w (dC mm) A (dC_A hA) (w.2.1 + (71 + mm)) G1 (fun i h => dC_s h) j hj (by omega) (by omega) 1 (by omega)) (cwV 1 F.2.2.2.2 gX5_timesPrevotes_X6_set rfl rfl rfl (by decide +kernel) ⟨Nat.le_of_ble_eq_true rfl, Nat.le_of_ble_eq_true rfl⟩) (z_preV hK hZ (8 + 8 * j) (dC_s (by omega)) (shp_seat j hj) (by decide) rfl _) rfl rfl hl.1 rfl (lv_room (Nat.le_of_ble_eq_true rfl)) dX5_timesPrevotes_39 ⟨by show 0 + 0 + (0) ≤ (mU mm ((tim1M X j).getD X) - mm); omega, by show 0 + 0 + (0) ≤ (8 * (mU mm ((tim1M X j).getD X) - mm)); omega⟩) (fun H locs hZ => ?_)
        refine z_iconst F dX5_timesPrevotes_42 ?_
        have hso : tim1M X j = some (setTimerM X1 j 1) := by rw [hX1]; exact tim1_t (by omega) (by omega) c_27
        have hst : ((tim1M X j).getD X) = setTimerM X1 j 1 := by rw [hso]; rfl
        have hue : mm = mU mm ((tim1M X j).getD X) := by rw [hst, mU_self (by rw [setTimerM_64]; omega)]
        have hfin : Sim (up G1 (8 + 8 * j + 7) 1 (cMom G1 j)) ((tim1M X j).getD X) (mU mm ((tim1M X j).getD X)) := by rw [← hue, hst]; exact hs2
        rw [hue] at hZ
        exact z_zret F hr hlocks hZ (by first | exact bI_0 (by rw [hno]; exact fun z => by cases z) | exact bI_1 (by rw [hso]; rfl)) (by omega) hfin dX5_timesPrevotes_43 (by omega) (by omega)
      · skip
        refine z_iconst F dX5_timesPrevotes_30 ?_
        have hno : tim1M X j = none := tim1_f (by omega)
        have hst : ((tim1M X j).getD X) = X := by rw [hno]; rfl
        have hue : mm = mU mm ((tim1M X j).getD X) := by rw [hst, mU_self (by omega)]
        have hfin : Sim (G) ((tim1M X j).getD X) (mU mm ((tim1M X j).getD X)) := by rw [← hue, hst]; exact hM
        rw [hue] at hZ
        exact z_zret F hr hlocks hZ (by first | exact bI_0 (by rw [hno]; exact fun z => by cases z) | exact bI_1 (by rw [hso]; rfl)) (by omega) hfin dX5_timesPrevotes_31 (by omega) (by omega)

theorem mX5_timesPrecommits_33 : Cond.fieldLink RX5 33 "LockedChain$Seat" "round" "I" ∈ wsX5_timesPrecommits := by decide +kernel
theorem mX5_timesPrecommits_189 : Cond.fieldLink RX5 189 "LockedChain$Seat" "didTimePrecommits" "Z" ∈ wsX5_timesPrecommits := by decide +kernel
set_option maxHeartbeats 4000000 in
set_option maxRecDepth 100000 in
theorem k_X5_timesPrecommits (l : Launch) (w : zW) (A : Nat → Prop) (hA : ∀ i, i < 64 ∨ 71 ≤ i → A (w.2.1 + i)) (mm : Nat) (G X : zM) (hM : Sim G X mm) (hI : Inv X) (j : Nat) (hj0 : (j : Int) < X 64 0) (hh : X 67 (20 * (j : Int) + 0) ≤ 5) : Met l yX5_timesPrecommits wsX5_timesPrecommits { frames := 3, cells := (mU mm ((tim2M X j).getD X) - mm), slots := (8 * (mU mm ((tim2M X j).getD X) - mm)), locals := 70 } (zPre w (dC mm) (w.2.1 + (71 + mm)) G [.ref (w.2.1 + (6)), .ref (w.2.1 + (8 + 8 * j))]) (zQi w (dC (mU mm ((tim2M X j).getD X))) (w.2.1 + (71 + mU mm ((tim2M X j).getD X))) (bI ((tim2M X j).isSome = true)) (fun C => Sim C ((tim2M X j).getD X) (mU mm ((tim2M X j).getD X))) A) ((mU mm ((tim2M X j).getD X) - mm)) ((8 * (mU mm ((tim2M X j).getD X) - mm))) A := by
  refine Met.ofW (cc := cX5_timesPrecommits) (maxL := 2) (ret := (some .boolean)) (by decide) rfl ?_
  intro p e s m args below meth c s₁ B hml hv
  obtain ⟨rfl, hsz, hP, hK⟩ := hv
  have F : CallFix p m c cX5_timesPrecommits 2 s _ wsX5_timesPrecommits RX5 := ⟨B.exec, B.bytes, hml, findClass_of_methodNamed B.named, atoms_spec (ws := wsX5_timesPrecommits) B.pre⟩
  have hr := B.returns
  have hlocks := B.notSynchronized
  have hZ : Zs w (dC mm) A s.heap (w.2.1 + (71 + mm)) G s.heap [] := ⟨hsz, hP, va_S.rf⟩
  have hl := lv_entry ([.ref (w.2.1 + (6)), .ref (w.2.1 + (8 + 8 * j))]) (n := 2) (Nat.le_of_ble_eq_true rfl)
  rw [lg_entry_eq]
  generalize (lg_sl ([.ref (w.2.1 + (6)), .ref (w.2.1 + (8 + 8 * j))]) ++ List.replicate (2 - (lg_sl ([.ref (w.2.1 + (6)), .ref (w.2.1 + (8 + 8 * j))])).length) Slot.unset).toArray = ls at hl ⊢
  have hl : lv_has ls 2 [(0, .ref (w.2.1 + (6))), (1, .ref (w.2.1 + (8 + 8 * j)))] := hl
  have hin6 : ∀ v ∈ u_ws RX6 TX6 15, v ∈ wsX5_timesPrecommits := by decide +kernel
  have hn := hI.1
  have hLL := hI.2.2.2.1
  have hj : j < 7 := by omega
  have hS : PostS G X mm := hM.1
  obtain ⟨hS1, hS2, hS3, hS4, hS5⟩ := hM.1
  have hC0 := hM.2.1
  have sf := Sim_f hM hj
  have sr := seat_rng hI (s := (j : Int)) (by omega)
  have hu := mU_c mm ((tim2M X j).getD X)
  have fl := flag_rng hI (s := (j : Int)) (by omega)
  have sfl := Sim_fl hM hj hh
  refine z_aload_n F dX5_timesPrecommits_0 rfl (lv_at hl 1 rfl) ?_
  refine z_get F hK hZ (8 + 8 * j) (dC_s (by omega)) (shp_seat j hj) (by decide) rfl hin6 8 (by decide) mX5_timesPrecommits_189 rfl rfl dX5_timesPrecommits_1 ?_
  have r_1 := hZ.2.1.1 (8 + 8 * j) (8)
  refine z_if_ne (tgt := 22) F (by omega) dX5_timesPrecommits_4 (by decide) (fun c_4 => ?_) (fun c_4 => ?_)
  · skip
    refine z_iconst F dX5_timesPrecommits_22 ?_
    have hno : tim2M X j = none := tim2_f (by omega)
    have hst : ((tim2M X j).getD X) = X := by rw [hno]; rfl
    have hue : mm = mU mm ((tim2M X j).getD X) := by rw [hst, mU_self (by omega)]
    have hfin : Sim (G) ((tim2M X j).getD X) (mU mm ((tim2M X j).getD X)) := by rw [← hue, hst]; exact hM
    rw [hue] at hZ
    exact z_zret F hr hlocks hZ (by first | exact bI_0 (by rw [hno]; exact fun z => by cases z) | exact bI_1 (by rw [hso]; rfl)) (by omega) hfin dX5_timesPrecommits_23 (by omega) (by omega)
  · skip
    refine z_aload_n F dX5_timesPrecommits_7 rfl (lv_at hl 0 rfl) ?_
    refine z_aload_n F dX5_timesPrecommits_8 rfl (lv_at hl 1 rfl) ?_
    refine z_iconst F dX5_timesPrecommits_9 ?_
    refine z_aload_n F dX5_timesPrecommits_10 rfl (lv_at hl 1 rfl) ?_
    refine z_get F hK hZ (8 + 8 * j) (dC_s (by omega)) (shp_seat j hj) (by decide) rfl hin6 3 (by decide) mX5_timesPrecommits_33 rfl rfl dX5_timesPrecommits_11 ?_
    have r_2 := hZ.2.1.1 (8 + 8 * j) (3)
    refine z_topI (show G (8 + 8 * j) 3 = X 67 (20 * (j : Int) + 1) from sf.2.2.2.1) ?_
    refine z_bipush F (by decide) dX5_timesPrecommits_14 ?_
    refine z_bxi hZ (va_runV (As := [.ref (w.2.1 + (8 + 8 * j)), .int (zI (2)), .int (zI (X 67 (20 * (j : Int) + 1))), .int (zI (-2))]) (rest := []) F (k_X5_hasMany l w (dC mm) A (dC_A hA) (w.2.1 + (71 + mm)) G X mm (fun i h => dC_s h) (fun i h => dC_l h) hM hI j hj0 (by omega) 2 (X 67 (20 * (j : Int) + 1)) (-2) (by omega) (by omega) (by omega)) (cwV 4 F.2.2.2.2 gX5_timesPrecommits_X5_hasMany rfl rfl rfl (by decide +kernel) ⟨Nat.le_of_ble_eq_true rfl, Nat.le_of_ble_eq_true rfl⟩) (z_preV hK hZ (6) (dC_s (by omega)) rfl (by decide) rfl _) rfl rfl hl.1 rfl (lv_room (Nat.le_of_ble_eq_true rfl)) dX5_timesPrecommits_16 ⟨by show 0 + (0) ≤ (mU mm ((tim2M X j).getD X) - mm); omega, by show 0 + (0) ≤ (8 * (mU mm ((tim2M X j).getD X) - mm)); omega⟩) (fun H locs hZ => ?_)
    refine z_ifB_ne (tgt := 24) F dX5_timesPrecommits_19 (by decide) (fun c_19 => ?_) (fun c_19 => ?_)
    · skip
      refine z_aload_n F dX5_timesPrecommits_24 rfl (lv_at hl 1 rfl) ?_
      refine z_iconst F dX5_timesPrecommits_25 ?_
      refine z_put (z := 1) F hK hZ (dC_A hA) (8 + 8 * j) (dC_s (by omega)) (shp_seat j hj) (by decide) rfl hin6 tyX6 tyX6_ok nmX6 8 (by decide) mX5_timesPrecommits_189 rfl rfl rfl rfl (by omega) (kz := 8) rfl rfl (Nat.le_of_ble_eq_true rfl) dX5_timesPrecommits_26 (fun H locs hZ => ?_)
      obtain ⟨G1, hG1⟩ : ∃ q : zM, q = up G (8 + 8 * j) (8) (1) := ⟨_, rfl⟩
      obtain ⟨X1, hX1⟩ : ∃ q : zM, q = setM X j 10 1 := ⟨_, rfl⟩
      have hM1 : Sim G1 X1 mm := by rw [hG1, hX1]; exact Sim_f8 hM hj
      have hI1 : Inv X1 := by rw [hX1]; exact (Nx_seat6 (v := 0) hI (by omega) (by omega)).1
      rw [← hG1] at hZ
      have sf1 := Sim_f hM1 hj
      have hC01 := hM1.2.1
      have h64 : X1 64 = X 64 := by rw [hX1, setM_cell _ _ _ _ (by decide)]
      have h640 : X1 64 0 = X 64 0 := by rw [h64]
      have h647 : X1 64 7 = X 64 7 := by rw [h64]
      have sr1 := seat_rng hI1 (s := (j : Int)) (by omega)
      refine z_aload_n F dX5_timesPrecommits_29 rfl (lv_at hl 1 rfl) ?_
      refine z_iconst F dX5_timesPrecommits_30 ?_
      have hs2 := Sim_timer hM1 (k := 2) hj (by omega)
      refine z_bxv hZ (va_runV (As := [.int (zI (2))]) (rest := []) F (k_X6_set l w (dC mm) A (dC_A hA) (w.2.1 + (71 + mm)) G1 (fun i h => dC_s h) j hj (by omega) (by omega) 2 (by omega)) (cwV 1 F.2.2.2.2 gX5_timesPrecommits_X6_set rfl rfl rfl (by decide +kernel) ⟨Nat.le_of_ble_eq_true rfl, Nat.le_of_ble_eq_true rfl⟩) (z_preV hK hZ (8 + 8 * j) (dC_s (by omega)) (shp_seat j hj) (by decide) rfl _) rfl rfl hl.1 rfl (lv_room (Nat.le_of_ble_eq_true rfl)) dX5_timesPrecommits_31 ⟨by show 0 + 0 + (0) ≤ (mU mm ((tim2M X j).getD X) - mm); omega, by show 0 + 0 + (0) ≤ (8 * (mU mm ((tim2M X j).getD X) - mm)); omega⟩) (fun H locs hZ => ?_)
      refine z_iconst F dX5_timesPrecommits_34 ?_
      have hso : tim2M X j = some (setTimerM X1 j 2) := by rw [hX1]; exact tim2_t (by omega) c_19
      have hst : ((tim2M X j).getD X) = setTimerM X1 j 2 := by rw [hso]; rfl
      have hue : mm = mU mm ((tim2M X j).getD X) := by rw [hst, mU_self (by rw [setTimerM_64]; omega)]
      have hfin : Sim (up G1 (8 + 8 * j + 7) 2 (cMom G1 j)) ((tim2M X j).getD X) (mU mm ((tim2M X j).getD X)) := by rw [← hue, hst]; exact hs2
      rw [hue] at hZ
      exact z_zret F hr hlocks hZ (by first | exact bI_0 (by rw [hno]; exact fun z => by cases z) | exact bI_1 (by rw [hso]; rfl)) (by omega) hfin dX5_timesPrecommits_35 (by omega) (by omega)
    · skip
      refine z_iconst F dX5_timesPrecommits_22 ?_
      have hno : tim2M X j = none := tim2_f (by omega)
      have hst : ((tim2M X j).getD X) = X := by rw [hno]; rfl
      have hue : mm = mU mm ((tim2M X j).getD X) := by rw [hst, mU_self (by omega)]
      have hfin : Sim (G) ((tim2M X j).getD X) (mU mm ((tim2M X j).getD X)) := by rw [← hue, hst]; exact hM
      rw [hue] at hZ
      exact z_zret F hr hlocks hZ (by first | exact bI_0 (by rw [hno]; exact fun z => by cases z) | exact bI_1 (by rw [hso]; rfl)) (by omega) hfin dX5_timesPrecommits_23 (by omega) (by omega)
