theorem mX7_come_19 : Cond.fieldLink RX7 19 "LockedChain" "post" "LLockedChain$Post;" ∈ wsX7_come := by decide +kernel
theorem mX7_come_28 : Cond.fieldLink RX7 28 "LockedChain" "rules" "LLockedChain$Rules;" ∈ wsX7_come := by decide +kernel
theorem mX7_come_60 : Cond.fieldLink RX7 60 "LockedChain$Seat" "isFalse" "Z" ∈ wsX7_come := by decide +kernel
set_option maxHeartbeats 4000000 in
set_option maxRecDepth 100000 in
theorem k_X7_come (l : Launch) (w : zW) (A : Nat → Prop) (hA : ∀ i, i < 64 ∨ 71 ≤ i → A (w.2.1 + i)) (mm : Nat) (G X : zM) (hM : Sim G X mm) (hI : Inv X) (v x : Int) (hv : -2147483648 ≤ v ∧ v < 2147483648) (hx : -2147483648 ≤ x ∧ x < 2147483648) : Met l yX7_come wsX7_come { frames := 7, cells := (mU mm (mCome X v x) - mm), slots := (8 * (mU mm (mCome X v x) - mm)), locals := 155 } (zPre w (dC mm) (w.2.1 + (71 + mm)) G [.ref (w.2.1 + (0)), .int (zI (v)), .int (zI (x))]) (zQi w (dC (mU mm (mCome X v x))) (w.2.1 + (71 + mU mm (mCome X v x))) (rCome X v x) (fun C => Sim C (mCome X v x) (mU mm (mCome X v x))) A) ((mU mm (mCome X v x) - mm)) ((8 * (mU mm (mCome X v x) - mm))) A := by
  refine Met.ofW (cc := cX7_come) (maxL := 5) (ret := (some .int)) (by decide) rfl ?_
  intro p e s m args below meth c s₁ B hml hv
  obtain ⟨rfl, hsz, hP, hK⟩ := hv
  have F : CallFix p m c cX7_come 5 s _ wsX7_come RX7 := ⟨B.exec, B.bytes, hml, findClass_of_methodNamed B.named, atoms_spec (ws := wsX7_come) B.pre⟩
  have hr := B.returns
  have hlocks := B.notSynchronized
  have hZ : Zs w (dC mm) A s.heap (w.2.1 + (71 + mm)) G s.heap [] := ⟨hsz, hP, va_S.rf⟩
  have hl := lv_entry ([.ref (w.2.1 + (0)), .int (zI (v)), .int (zI (x))]) (n := 5) (Nat.le_of_ble_eq_true rfl)
  rw [lg_entry_eq]
  generalize (lg_sl ([.ref (w.2.1 + (0)), .int (zI (v)), .int (zI (x))]) ++ List.replicate (5 - (lg_sl ([.ref (w.2.1 + (0)), .int (zI (v)), .int (zI (x))])).length) Slot.unset).toArray = ls at hl ⊢
  have hl : lv_has ls 5 [(0, .ref (w.2.1 + (0))), (1, .int (zI (v))), (2, .int (zI (x)))] := hl
  have hin6 : ∀ v ∈ u_ws RX6 TX6 15, v ∈ wsX7_come := by decide +kernel
  have hin7 : ∀ v ∈ u_ws RX7 TX7 6, v ∈ wsX7_come := by decide +kernel
  have hn := hI.1
  have hLL := hI.2.2.2.1
  have hS : PostS G X mm := hM.1
  obtain ⟨hS1, hS2, hS3, hS4, hS5⟩ := hM.1
  have hC0 := hM.2.1
  have hu := mU_c mm (mCome X v x)
  refine z_aload_n F dX7_come_0 rfl (lv_at hl 0 rfl) ?_
  refine z_get F hK hZ (0) (dC_s (by omega)) rfl (by decide) rfl hin7 1 (by decide) mX7_come_19 rfl rfl dX7_come_1 ?_
  refine z_iload_n F dX7_come_4 rfl (lv_at hl 1 rfl) ?_
  refine z_bxr hZ (va_runV (As := [.int (zI (v))]) (rest := []) F (k_X4_at l w (dC mm) A (dC_A hA) (w.2.1 + (71 + mm)) G (fun i h => dC_s h) v (by omega)) (cwV 1 F.2.2.2.2 gX7_come_X4_at rfl rfl rfl (by decide +kernel) ⟨Nat.le_of_ble_eq_true rfl, Nat.le_of_ble_eq_true rfl⟩) (z_preV hK hZ (2) (dC_s (by omega)) rfl (by decide) rfl _) rfl rfl hl.1 rfl (lv_room (Nat.le_of_ble_eq_true rfl)) dX7_come_5 ⟨by show 0 + (0) ≤ (mU mm (mCome X v x) - mm); omega, by show 0 + (0) ≤ (8 * (mU mm (mCome X v x) - mm)); omega⟩) (fun H locs hZ => ?_)
  rw [show (if 0 ≤ v ∧ v < G 2 3 ∧ v < 400 then G 3 v else -1) = atV X v from at_eq hM.1 v]
  refine z_vstore_n (lv' := [(3, zV w (atV X v)), (0, .ref (w.2.1 + (0))), (1, .int (zI (v))), (2, .int (zI (x)))]) F dX7_come_8 rfl hl (by decide) (by unfold zV; (repeat' split) <;> rfl) (fun ls hl => ?_)
  refine z_aload_n F dX7_come_9 rfl (lv_at hl 1 rfl) ?_
  refine z_iload_n F dX7_come_10 rfl (lv_at hl 3 rfl) ?_
  refine z_bxr hZ (va_runV (As := [.int (zI (x))]) (rest := []) F (k_X7_seated l w (dC mm) A (dC_A hA) (w.2.1 + (71 + mm)) G X mm (fun i h => dC_s h) (fun i h => dC_l h) hM hI x (by omega)) (cwV 1 F.2.2.2.2 gX7_come_X7_seated rfl rfl rfl (by decide +kernel) ⟨Nat.le_of_ble_eq_true rfl, Nat.le_of_ble_eq_true rfl⟩) (z_preV hK hZ (0) (dC_s (by omega)) rfl (by decide) rfl _) rfl rfl hl.1 rfl (lv_room (Nat.le_of_ble_eq_true rfl)) dX7_come_11 ⟨by show 0 + 0 + (0) ≤ (mU mm (mCome X v x) - mm); omega, by show 0 + 0 + (0) ≤ (8 * (mU mm (mCome X v x) - mm)); omega⟩) (fun H locs hZ => ?_)
  refine z_vstore (lv' := [(4, zV w (stV X x)), (3, zV w (atV X v)), (0, .ref (w.2.1 + (0))), (1, .int (zI (v))), (2, .int (zI (x)))]) F dX7_come_14 hl (by decide) (by unfold zV; (repeat' split) <;> rfl) (fun ls hl => ?_)
  refine z_vload_n (w := w) F dX7_come_16 rfl (lv_at hl 1 rfl) ?_
  refine z_ifnull (tgt := 25) F dX7_come_17 (by decide) (fun c_17 => ?_) (fun c_17 => ?_)
  · skip
    have hng := atV_neg c_17
    have hbad : ¬ ((0 ≤ v ∧ v ≤ X 64 7 - 1) ∧ 0 ≤ x ∧ x ≤ X 64 0 - 1) := by omega
    refine z_iconst F dX7_come_25 ?_
    have hst : (mCome X v x) = X := by rw [mCome, if_pos hbad]
    have hue : mm = mU mm (mCome X v x) := by rw [hst, mU_self (by omega)]
    have hfin : Sim (G) (mCome X v x) (mU mm (mCome X v x)) := by rw [← hue, hst]; exact hM
    rw [hue] at hZ
    exact z_iret F hr hlocks hZ (by rw [rCome, if_pos hbad]) hfin dX7_come_26 (by omega) (by omega)
  · skip
    obtain ⟨y, rfl, hy0, hzy⟩ := atV_pos c_17
    rw [hzy, zV_nat] at hl
    refine z_vload (w := w) F dX7_come_20 (lv_at hl 0 rfl) ?_
    refine z_ifnonnull (tgt := 27) F dX7_come_22 (by decide) (fun c_22 => ?_) (fun c_22 => ?_)
    · skip
      obtain ⟨j, rfl, hj0, hj, hz⟩ := stV_pos hn (by assumption)
      rw [hz, zV_nat] at hl
      refine z_aload F dX7_come_27 (lv_at hl 0 rfl) ?_
      refine z_get F hK hZ (8 + 8 * j) (dC_s (by omega)) (shp_seat j hj) (by decide) rfl hin6 1 (by decide) mX7_come_60 rfl rfl dX7_come_29 ?_
      have r_1 := hZ.2.1.1 (8 + 8 * j) (1)
      refine z_topI (show G (8 + 8 * j) 1 = X 65 (j : Int) from (Sim_f hM (j := j) (by omega)).2.1) ?_
      have r_2 : -2147483648 ≤ X 65 (j : Int) ∧ X 65 (j : Int) < 2147483648 := by rw [← show G (8 + 8 * j) 1 = X 65 (j : Int) from (Sim_f hM (j := j) (by omega)).2.1]; exact hZ.2.1.1 _ _
      refine z_if_ne (tgt := 43) F (by omega) dX7_come_32 (by decide) (fun c_32 => ?_) (fun c_32 => ?_)
      · skip
        refine z_bipush F (by decide) dX7_come_43 ?_
        have hst : (mCome X (y : Int) (j : Int)) = X := by rw [mCome, if_neg (by omega), if_pos (by omega)]
        have hue : mm = mU mm (mCome X (y : Int) (j : Int)) := by rw [hst, mU_self (by omega)]
        have hfin : Sim (G) (mCome X (y : Int) (j : Int)) (mU mm (mCome X (y : Int) (j : Int))) := by rw [← hue, hst]; exact hM
        rw [hue] at hZ
        exact z_iret F hr hlocks hZ (by rw [rCome, if_neg (by omega), if_pos (by omega)]) hfin dX7_come_45 (by omega) (by omega)
      · skip
        refine z_aload_n F dX7_come_35 rfl (lv_at hl 1 rfl) ?_
        refine z_iload_n F dX7_come_36 rfl (lv_at hl 4 rfl) ?_
        refine z_bxi hZ (va_runV (As := [.int (zI ((j : Int)))]) (rest := []) F (k_X2_cameTo l w (dC mm) A (dC_A hA) (w.2.1 + (71 + mm)) G y (dC_l (by omega)) (cam_rng hM.1 (by omega)) ((j : Int)) (by omega)) (cwV 1 F.2.2.2.2 gX7_come_X2_cameTo rfl rfl rfl (by decide +kernel) ⟨Nat.le_of_ble_eq_true rfl, Nat.le_of_ble_eq_true rfl⟩) (z_preV hK hZ (71 + y) (dC_l (by omega)) (shp_let y) (by decide) rfl _) rfl rfl hl.1 rfl (lv_room (Nat.le_of_ble_eq_true rfl)) dX7_come_37 ⟨by show 0 + 0 + 0 + (0) ≤ (mU mm (mCome X (y : Int) (j : Int)) - mm); omega, by show 0 + 0 + 0 + (0) ≤ (8 * (mU mm (mCome X (y : Int) (j : Int)) - mm)); omega⟩) (fun H locs hZ => ?_)
        refine z_topI (cam_bI hM.1 (l := y) (s := (j : Int)) (by omega) (by omega)) ?_
        refine z_ifB_eq (tgt := 46) F dX7_come_40 (by decide) (fun c_40 => ?_) (fun c_40 => ?_)
        · skip
          refine z_aload_n F dX7_come_46 rfl (lv_at hl 1 rfl) ?_
          refine z_iload_n F dX7_come_47 rfl (lv_at hl 4 rfl) ?_
          refine z_bxv hZ (va_runV (As := [.int (zI ((j : Int)))]) (rest := []) F (k_X2_reach l w (dC mm) A (dC_A hA) (w.2.1 + (71 + mm)) G y (dC_l (by omega)) ((j : Int)) (by omega)) (cwV 1 F.2.2.2.2 gX7_come_X2_reach rfl rfl rfl (by decide +kernel) ⟨Nat.le_of_ble_eq_true rfl, Nat.le_of_ble_eq_true rfl⟩) (z_preV hK hZ (71 + y) (dC_l (by omega)) (shp_let y) (by decide) rfl _) rfl rfl hl.1 rfl (lv_room (Nat.le_of_ble_eq_true rfl)) dX7_come_48 ⟨by show 0 + 0 + 0 + 0 + (0) ≤ (mU mm (mCome X (y : Int) (j : Int)) - mm); omega, by show 0 + 0 + 0 + 0 + (0) ≤ (8 * (mU mm (mCome X (y : Int) (j : Int)) - mm)); omega⟩) (fun H locs hZ => ?_)
          obtain ⟨G1, hG1⟩ : ∃ zz : zM, zz = up G (71 + y) 6 (orS (G (71 + y) 6) ((j : Int))) := ⟨_, rfl⟩
          obtain ⟨X1, hX1⟩ : ∃ zz : zM, zz = up X 70 (7 * (y : Int) + ((j : Int))) 1 := ⟨_, rfl⟩
          have hM1 : Sim G1 X1 mm := by rw [hG1, hX1]; exact Sim_reach hM (by omega) (by omega)
          have hI1 : Inv X1 := by rw [hX1]; exact (Nx_came hI (by omega) (by omega)).1
          rw [← hG1] at hZ
          have hC01 := hM1.2.1
          have h64 : X1 64 = X 64 := by rw [hX1, up_cell _ _ _ (by decide)]
          have h640 : X1 64 0 = X 64 0 := by rw [h64]
          have h65 : X1 65 = X 65 := by rw [hX1, up_cell _ _ _ (by decide)]
          refine z_aload_n F dX7_come_51 rfl (lv_at hl 2 rfl) ?_
          refine z_get F hK hZ (0) (dC_s (by omega)) rfl (by decide) rfl hin7 2 (by decide) mX7_come_28 rfl rfl dX7_come_52 ?_
          refine z_aload F dX7_come_55 (lv_at hl 0 rfl) ?_
          have hst : (mCome X (y : Int) (j : Int)) = rulesM X1 j := by rw [mCome, if_neg (by omega), if_neg (by omega), comesM, hX1]
          have hue : mU mm (rulesM X1 j) = mU mm (mCome X (y : Int) (j : Int)) := by rw [hst]
          have hf1 : X1 65 (j : Int) = 0 := by rw [h65]; omega
          refine z_backv hZ (va_runV (As := [.ref (w.2.1 + (8 + 8 * j))]) (rest := []) F (k_X5_go l w A hA mm G1 X1 hM1 hI1 j (by omega) hf1) (cwV 1 F.2.2.2.2 gX7_come_X5_go rfl rfl rfl (by decide +kernel) ⟨Nat.le_of_ble_eq_true rfl, Nat.le_of_ble_eq_true rfl⟩) (z_preV hK hZ (6) (dC_s (by omega)) rfl (by decide) rfl _) rfl rfl hl.1 rfl (lv_room (Nat.le_of_ble_eq_true rfl)) dX7_come_57 ⟨by show 0 + 0 + 0 + 0 + 0 + (mU mm (rulesM X1 j) - mm) ≤ (mU mm (mCome X (y : Int) (j : Int)) - mm); omega, by show 0 + 0 + 0 + 0 + 0 + (8 * (mU mm (rulesM X1 j) - mm)) ≤ (8 * (mU mm (mCome X (y : Int) (j : Int)) - mm)); omega⟩) (fun Cgo H locs hCgo hZ => ?_)
          refine z_aload_n F dX7_come_60 rfl (lv_at hl 2 rfl) ?_
          refine z_get F hK hZ (0) (dC_s (by omega)) rfl (by decide) rfl hin7 1 (by decide) mX7_come_19 rfl rfl dX7_come_61 ?_
          refine z_bxi hZ (va_runV (As := []) (rest := []) F (k_X4_sent l w (dC ((mU mm (rulesM X1 j)))) A (dC_A hA) (w.2.1 + (71 + ((mU mm (rulesM X1 j))))) Cgo (fun i h => dC_s h)) (cwV 0 F.2.2.2.2 gX7_come_X4_sent rfl rfl rfl (by decide +kernel) ⟨Nat.le_of_ble_eq_true rfl, Nat.le_of_ble_eq_true rfl⟩) (z_preV hK hZ (2) (dC_s (by omega)) rfl (by decide) rfl _) rfl rfl hl.1 rfl (lv_room (Nat.le_of_ble_eq_true rfl)) dX7_come_64 ⟨by show 0 + 0 + 0 + 0 + 0 + (mU mm (rulesM X1 j) - mm) + (0) ≤ (mU mm (mCome X (y : Int) (j : Int)) - mm); omega, by show 0 + 0 + 0 + 0 + 0 + (8 * (mU mm (rulesM X1 j) - mm)) + (0) ≤ (8 * (mU mm (mCome X (y : Int) (j : Int)) - mm)); omega⟩) (fun H locs hZ => ?_)
          refine z_topI (show Cgo 2 3 = (mCome X (y : Int) (j : Int)) 64 7 from by rw [hCgo.1.1, hst]) ?_
          have hfin : Sim Cgo (mCome X (y : Int) (j : Int)) (mU mm (mCome X (y : Int) (j : Int))) := by rw [← hue, hst]; exact hCgo
          rw [hue] at hZ
          exact z_iret F hr hlocks hZ (by rw [rCome, mCome, if_neg (by omega), if_neg (by omega), if_neg (by omega), if_neg (by omega)]) hfin dX7_come_67 (by omega) (by omega)
        · skip
          refine z_bipush F (by decide) dX7_come_43 ?_
          have hst : (mCome X (y : Int) (j : Int)) = X := by rw [mCome, if_neg (by omega), if_pos (by omega)]
          have hue : mm = mU mm (mCome X (y : Int) (j : Int)) := by rw [hst, mU_self (by omega)]
          have hfin : Sim (G) (mCome X (y : Int) (j : Int)) (mU mm (mCome X (y : Int) (j : Int))) := by rw [← hue, hst]; exact hM
          rw [hue] at hZ
          exact z_iret F hr hlocks hZ (by rw [rCome, if_neg (by omega), if_pos (by omega)]) hfin dX7_come_45 (by omega) (by omega)
    · skip
      have hng := stV_neg c_22
      have hbad : ¬ ((0 ≤ (y : Int) ∧ (y : Int) ≤ X 64 7 - 1) ∧ 0 ≤ x ∧ x ≤ X 64 0 - 1) := by omega
      refine z_iconst F dX7_come_25 ?_
      have hst : (mCome X (y : Int) x) = X := by rw [mCome, if_pos hbad]
      have hue : mm = mU mm (mCome X (y : Int) x) := by rw [hst, mU_self (by omega)]
      have hfin : Sim (G) (mCome X (y : Int) x) (mU mm (mCome X (y : Int) x)) := by rw [← hue, hst]; exact hM
      rw [hue] at hZ
      exact z_iret F hr hlocks hZ (by rw [rCome, if_pos hbad]) hfin dX7_come_26 (by omega) (by omega)

theorem mX7_end_19 : Cond.fieldLink RX7 19 "LockedChain" "post" "LLockedChain$Post;" ∈ wsX7_end := by decide +kernel
theorem mX7_end_28 : Cond.fieldLink RX7 28 "LockedChain" "rules" "LLockedChain$Rules;" ∈ wsX7_end := by decide +kernel
set_option maxHeartbeats 4000000 in
set_option maxRecDepth 100000 in
theorem k_X7_end (l : Launch) (w : zW) (A : Nat → Prop) (hA : ∀ i, i < 64 ∨ 71 ≤ i → A (w.2.1 + i)) (mm : Nat) (G X : zM) (hM : Sim G X mm) (hI : Inv X) (x k : Int) (hx : -2147483648 ≤ x ∧ x < 2147483648) (hk : -2147483648 ≤ k ∧ k < 2147483648) : Met l yX7_end wsX7_end { frames := 7, cells := (mU mm (mEnd X x k) - mm), slots := (8 * (mU mm (mEnd X x k) - mm)), locals := 155 } (zPre w (dC mm) (w.2.1 + (71 + mm)) G [.ref (w.2.1 + (0)), .int (zI (x)), .int (zI (k))]) (zQi w (dC (mU mm (mEnd X x k))) (w.2.1 + (71 + mU mm (mEnd X x k))) (rEnd X x k) (fun C => Sim C (mEnd X x k) (mU mm (mEnd X x k))) A) ((mU mm (mEnd X x k) - mm)) ((8 * (mU mm (mEnd X x k) - mm))) A := by
  refine Met.ofW (cc := cX7_end) (maxL := 4) (ret := (some .int)) (by decide) rfl ?_
  intro p e s m args below meth c s₁ B hml hv
  obtain ⟨rfl, hsz, hP, hK⟩ := hv
  have F : CallFix p m c cX7_end 4 s _ wsX7_end RX7 := ⟨B.exec, B.bytes, hml, findClass_of_methodNamed B.named, atoms_spec (ws := wsX7_end) B.pre⟩
  have hr := B.returns
  have hlocks := B.notSynchronized
  have hZ : Zs w (dC mm) A s.heap (w.2.1 + (71 + mm)) G s.heap [] := ⟨hsz, hP, va_S.rf⟩
  have hl := lv_entry ([.ref (w.2.1 + (0)), .int (zI (x)), .int (zI (k))]) (n := 4) (Nat.le_of_ble_eq_true rfl)
  rw [lg_entry_eq]
  generalize (lg_sl ([.ref (w.2.1 + (0)), .int (zI (x)), .int (zI (k))]) ++ List.replicate (4 - (lg_sl ([.ref (w.2.1 + (0)), .int (zI (x)), .int (zI (k))])).length) Slot.unset).toArray = ls at hl ⊢
  have hl : lv_has ls 4 [(0, .ref (w.2.1 + (0))), (1, .int (zI (x))), (2, .int (zI (k)))] := hl
  have hin7 : ∀ v ∈ u_ws RX7 TX7 6, v ∈ wsX7_end := by decide +kernel
  have hn := hI.1
  have hLL := hI.2.2.2.1
  have hS : PostS G X mm := hM.1
  obtain ⟨hS1, hS2, hS3, hS4, hS5⟩ := hM.1
  have hC0 := hM.2.1
  have hu := mU_c mm (mEnd X x k)
  refine z_aload_n F dX7_end_0 rfl (lv_at hl 0 rfl) ?_
  refine z_iload_n F dX7_end_1 rfl (lv_at hl 1 rfl) ?_
  refine z_bxr hZ (va_runV (As := [.int (zI (x))]) (rest := []) F (k_X7_seated l w (dC mm) A (dC_A hA) (w.2.1 + (71 + mm)) G X mm (fun i h => dC_s h) (fun i h => dC_l h) hM hI x (by omega)) (cwV 1 F.2.2.2.2 gX7_end_X7_seated rfl rfl rfl (by decide +kernel) ⟨Nat.le_of_ble_eq_true rfl, Nat.le_of_ble_eq_true rfl⟩) (z_preV hK hZ (0) (dC_s (by omega)) rfl (by decide) rfl _) rfl rfl hl.1 rfl (lv_room (Nat.le_of_ble_eq_true rfl)) dX7_end_2 ⟨Nat.zero_le _, Nat.zero_le _⟩) (fun H locs hZ => ?_)
  refine z_vstore_n (lv' := [(3, zV w (stV X x)), (0, .ref (w.2.1 + (0))), (1, .int (zI (x))), (2, .int (zI (k)))]) F dX7_end_5 rfl hl (by decide) (by unfold zV; (repeat' split) <;> rfl) (fun ls hl => ?_)
  refine z_vload_n (w := w) F dX7_end_6 rfl (lv_at hl 0 rfl) ?_
  refine z_ifnull (tgt := 19) F dX7_end_7 (by decide) (fun c_7 => ?_) (fun c_7 => ?_)
  · skip
    have hng := stV_neg c_7
    have hbad : ¬ ((0 ≤ x ∧ x ≤ X 64 0 - 1) ∧ 0 ≤ k ∧ k ≤ 2) := by omega
    refine z_iconst F dX7_end_19 ?_
    have hst : (mEnd X x k) = X := by rw [mEnd, if_pos hbad]
    have hue : mm = mU mm (mEnd X x k) := by rw [hst, mU_self (by omega)]
    have hfin : Sim (G) (mEnd X x k) (mU mm (mEnd X x k)) := by rw [← hue, hst]; exact hM
    rw [hue] at hZ
    exact z_iret F hr hlocks hZ (by rw [rEnd, if_pos hbad]) hfin dX7_end_20 (by first | exact Nat.zero_le _ | exact rm_f hue hrt1 hrt2) (by first | exact Nat.zero_le _ | exact rm_f8 hue hrt1 hrt2)
  · skip
    obtain ⟨j, rfl, hj0, hj, hz⟩ := stV_pos hn (by assumption)
    rw [hz, zV_nat] at hl
    refine z_iload_n F dX7_end_10 rfl (lv_at hl 3 rfl) ?_
    refine z_if_lt (tgt := 19) F (by omega) dX7_end_11 (by decide) (fun c_11 => ?_) (fun c_11 => ?_)
    · skip
      have hbad : ¬ ((0 ≤ (j : Int) ∧ (j : Int) ≤ X 64 0 - 1) ∧ 0 ≤ k ∧ k ≤ 2) := by omega
      refine z_iconst F dX7_end_19 ?_
      have hst : (mEnd X (j : Int) k) = X := by rw [mEnd, if_pos hbad]
      have hue : mm = mU mm (mEnd X (j : Int) k) := by rw [hst, mU_self (by omega)]
      have hfin : Sim (G) (mEnd X (j : Int) k) (mU mm (mEnd X (j : Int) k)) := by rw [← hue, hst]; exact hM
      rw [hue] at hZ
      exact z_iret F hr hlocks hZ (by rw [rEnd, if_pos hbad]) hfin dX7_end_20 (by first | exact Nat.zero_le _ | exact rm_f hue hrt1 hrt2) (by first | exact Nat.zero_le _ | exact rm_f8 hue hrt1 hrt2)
    · skip
      refine z_iload_n F dX7_end_14 rfl (lv_at hl 3 rfl) ?_
      refine z_iconst F dX7_end_15 ?_
      refine z_icmp_lt (tgt := 21) F (by omega) (by omega) dX7_end_16 (by decide) (fun c_16 => ?_) (fun c_16 => ?_)
      · skip
        refine z_aload_n F dX7_end_21 rfl (lv_at hl 0 rfl) ?_
        refine z_iload_n F dX7_end_22 rfl (lv_at hl 3 rfl) ?_
        refine z_bxi hZ (va_runV (As := [.int (zI (k))]) (rest := []) F (k_X6_isSet l w (dC mm) A (dC_A hA) (w.2.1 + (71 + mm)) G (fun i h => dC_s h) j hj k (by omega)) (cwV 1 F.2.2.2.2 gX7_end_X6_isSet rfl rfl rfl (by decide +kernel) ⟨Nat.le_of_ble_eq_true rfl, Nat.le_of_ble_eq_true rfl⟩) (z_preV hK hZ (8 + 8 * j) (dC_s (by omega)) (shp_seat j hj) (by decide) rfl _) rfl rfl hl.1 rfl (lv_room (Nat.le_of_ble_eq_true rfl)) dX7_end_23 ⟨Nat.zero_le _, Nat.zero_le _⟩) (fun H locs hZ => ?_)
        refine z_topI (tm_set hM hI (j := j) (k := k) (by omega) (by omega)) ?_
        refine z_ifB_ne (tgt := 32) F dX7_end_26 (by decide) (fun c_26 => ?_) (fun c_26 => ?_)
        · skip
          refine z_aload_n F dX7_end_32 rfl (lv_at hl 1 rfl) ?_
          refine z_get F hK hZ (0) (dC_s (by omega)) rfl (by decide) rfl hin7 2 (by decide) mX7_end_28 rfl rfl dX7_end_33 ?_
          refine z_aload_n F dX7_end_36 rfl (lv_at hl 0 rfl) ?_
          refine z_iload_n F dX7_end_37 rfl (lv_at hl 3 rfl) ?_
          have hts := tim_set hI (s := (j : Int)) (k := k) (by omega) (by omega) c_26
          have hnx := Nx_ring hI (s := (j : Int)) (k := k) (by omega) (by omega) hts.1 hts.2.1
          have hnr := Nx_rules hnx.1 (s := (j : Int)) (by rw [hnx.2.1.1]; omega)
          have hst : (mEnd X (j : Int) k) = rulesM (ringM X j k) j := by rw [mEnd, if_neg (by omega), if_neg c_26]; rfl
          have hlr := hnx.2.2.2.2
          have hlu := hnr.2.2.2.2
          have hmm2 : mU (mU mm (ringM X j k)) (rulesM (ringM X j k) j) = mU mm (rulesM (ringM X j k) j) := mU_mU hlu
          have hrt1 : mm ≤ mU mm (ringM X j k) := mU_ge _ _
          have hrt2 : mU mm (ringM X j k) ≤ mU mm (mEnd X (j : Int) k) := by rw [hst]; exact mU_mono hlu
          have h65r : ringM X j k 65 (j : Int) = 0 := by rw [hnx.2.2.1]; exact hts.1
          have h640r : ringM X j k 64 0 = X 64 0 := hnx.2.1.1
          clear hu
          refine z_backv hZ (va_runV (As := [.ref (w.2.1 + (8 + 8 * j)), .int (zI (k))]) (rest := []) F (k_X5_ring l w A hA mm G X hM hI j (by omega) (by omega) k (by omega) (by omega)) (cwV 2 F.2.2.2.2 gX7_end_X5_ring rfl rfl rfl (by decide +kernel) ⟨Nat.le_of_ble_eq_true rfl, Nat.le_of_ble_eq_true rfl⟩) (z_preV hK hZ (6) (dC_s (by omega)) rfl (by decide) rfl _) rfl rfl hl.1 rfl (lv_room (Nat.le_of_ble_eq_true rfl)) dX7_end_38 ⟨rm_c hrt2, rm_c8 hrt2⟩) (fun C1 H locs hC1 hZ => ?_)
          obtain ⟨G1, hG1⟩ : ∃ zz : zM, zz = C1 := ⟨_, rfl⟩
          obtain ⟨X1, hX1⟩ : ∃ zz : zM, zz = (ringM X j k) := ⟨_, rfl⟩
          have hM1 : Sim G1 X1 ((mU mm (ringM X j k))) := by rw [hG1, hX1]; exact hC1
          have hI1 : Inv X1 := by rw [hX1]; exact hnx.1
          rw [← hG1] at hZ
          have hC01 := hM1.2.1
          refine z_aload_n F dX7_end_41 rfl (lv_at hl 1 rfl) ?_
          refine z_get F hK hZ (0) (dC_s (by omega)) rfl (by decide) rfl hin7 2 (by decide) mX7_end_28 rfl rfl dX7_end_42 ?_
          refine z_aload_n F dX7_end_45 rfl (lv_at hl 0 rfl) ?_
          rw [← hX1] at hst h65r h640r
          have hue : mU (mU mm (ringM X j k)) (rulesM X1 j) = mU mm (mEnd X (j : Int) k) := by rw [hst, hX1]; exact hmm2
          refine z_backv hZ (va_runV (As := [.ref (w.2.1 + (8 + 8 * j))]) (rest := []) F (k_X5_go l w A hA ((mU mm (ringM X j k))) G1 X1 hM1 hI1 j (by omega) h65r) (cwV 1 F.2.2.2.2 gX7_end_X5_go rfl rfl rfl (by decide +kernel) ⟨Nat.le_of_ble_eq_true rfl, Nat.le_of_ble_eq_true rfl⟩) (z_preV hK hZ (6) (dC_s (by omega)) rfl (by decide) rfl _) rfl rfl hl.1 rfl (lv_room (Nat.le_of_ble_eq_true rfl)) dX7_end_46 ⟨by show 0 + 0 + 0 + (mU mm (ringM X j k) - mm) + (mU ((mU mm (ringM X j k))) (rulesM X1 j) - ((mU mm (ringM X j k)))) ≤ (mU mm (mEnd X (j : Int) k) - mm); rw [hue]; exact rm_d hrt1 hrt2, by show 0 + 0 + 0 + (8 * (mU mm (ringM X j k) - mm)) + (8 * (mU ((mU mm (ringM X j k))) (rulesM X1 j) - ((mU mm (ringM X j k))))) ≤ (8 * (mU mm (mEnd X (j : Int) k) - mm)); rw [hue]; exact rm_d8 hrt1 hrt2⟩) (fun Cgo H locs hCgo hZ => ?_)
          refine z_aload_n F dX7_end_49 rfl (lv_at hl 1 rfl) ?_
          refine z_get F hK hZ (0) (dC_s (by omega)) rfl (by decide) rfl hin7 1 (by decide) mX7_end_19 rfl rfl dX7_end_50 ?_
          refine z_bxi hZ (va_runV (As := []) (rest := []) F (k_X4_sent l w (dC ((mU ((mU mm (ringM X j k))) (rulesM X1 j)))) A (dC_A hA) (w.2.1 + (71 + ((mU ((mU mm (ringM X j k))) (rulesM X1 j))))) Cgo (fun i h => dC_s h)) (cwV 0 F.2.2.2.2 gX7_end_X4_sent rfl rfl rfl (by decide +kernel) ⟨Nat.le_of_ble_eq_true rfl, Nat.le_of_ble_eq_true rfl⟩) (z_preV hK hZ (2) (dC_s (by omega)) rfl (by decide) rfl _) rfl rfl hl.1 rfl (lv_room (Nat.le_of_ble_eq_true rfl)) dX7_end_53 ⟨by show 0 + 0 + 0 + (mU mm (ringM X j k) - mm) + (mU ((mU mm (ringM X j k))) (rulesM X1 j) - ((mU mm (ringM X j k)))) + (0) ≤ (mU mm (mEnd X (j : Int) k) - mm); rw [hue]; exact rm_d hrt1 hrt2, by show 0 + 0 + 0 + (8 * (mU mm (ringM X j k) - mm)) + (8 * (mU ((mU mm (ringM X j k))) (rulesM X1 j) - ((mU mm (ringM X j k))))) + (0) ≤ (8 * (mU mm (mEnd X (j : Int) k) - mm)); rw [hue]; exact rm_d8 hrt1 hrt2⟩) (fun H locs hZ => ?_)
          refine z_topI (show Cgo 2 3 = (mEnd X (j : Int) k) 64 7 from by rw [hCgo.1.1, hst]) ?_
          have hfin : Sim Cgo (mEnd X (j : Int) k) (mU mm (mEnd X (j : Int) k)) := by rw [← hue, hst]; exact hCgo
          rw [hue] at hZ
          exact z_iret F hr hlocks hZ (by rw [rEnd, if_neg (by omega), if_neg c_26, mEnd, if_neg (by omega), if_neg c_26]) hfin dX7_end_56 (by first | exact Nat.zero_le _ | exact rm_f hue hrt1 hrt2) (by first | exact Nat.zero_le _ | exact rm_f8 hue hrt1 hrt2)
        · skip
          refine z_bipush F (by decide) dX7_end_29 ?_
          have hst : (mEnd X (j : Int) k) = X := by rw [mEnd, if_neg (by omega), if_pos (Classical.not_not.mp c_26)]
          have hue : mm = mU mm (mEnd X (j : Int) k) := by rw [hst, mU_self (by omega)]
          have hfin : Sim (G) (mEnd X (j : Int) k) (mU mm (mEnd X (j : Int) k)) := by rw [← hue, hst]; exact hM
          rw [hue] at hZ
          exact z_iret F hr hlocks hZ (by rw [rEnd, if_neg (by omega), if_pos (Classical.not_not.mp c_26)]) hfin dX7_end_31 (by first | exact Nat.zero_le _ | exact rm_f hue hrt1 hrt2) (by first | exact Nat.zero_le _ | exact rm_f8 hue hrt1 hrt2)
      · skip
        have hbad : ¬ ((0 ≤ (j : Int) ∧ (j : Int) ≤ X 64 0 - 1) ∧ 0 ≤ k ∧ k ≤ 2) := by omega
        refine z_iconst F dX7_end_19 ?_
        have hst : (mEnd X (j : Int) k) = X := by rw [mEnd, if_pos hbad]
        have hue : mm = mU mm (mEnd X (j : Int) k) := by rw [hst, mU_self (by omega)]
        have hfin : Sim (G) (mEnd X (j : Int) k) (mU mm (mEnd X (j : Int) k)) := by rw [← hue, hst]; exact hM
        rw [hue] at hZ
        exact z_iret F hr hlocks hZ (by rw [rEnd, if_pos hbad]) hfin dX7_end_20 (by first | exact Nat.zero_le _ | exact rm_f hue hrt1 hrt2) (by first | exact Nat.zero_le _ | exact rm_f8 hue hrt1 hrt2)
