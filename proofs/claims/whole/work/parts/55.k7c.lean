theorem mX7_falseSeat_41 : Cond.fieldLink RX7 41 "LockedChain" "begun" "Z" ∈ wsX7_falseSeat := by decide +kernel
theorem mX7_falseSeat_60 : Cond.fieldLink RX7 60 "LockedChain$Seat" "isFalse" "Z" ∈ wsX7_falseSeat := by decide +kernel
set_option maxHeartbeats 4000000 in
set_option maxRecDepth 100000 in
theorem k_X7_falseSeat (l : Launch) (w : zW) (dom : Nat → Prop) (A : Nat → Prop) (hDA : ∀ i, dom i → A (w.2.1 + i)) (sz : Nat) (G : zM) (X : zM) (mm : Nat) (hd : ∀ i, i < 64 → dom i) (hdl : ∀ i, 71 ≤ i ∧ i < 71 + mm → dom i) (hM : Sim G X mm) (hI : Inv X) (hB : InvB X) (x : Int) (hx : -2147483648 ≤ x ∧ x < 2147483648) : Met l yX7_falseSeat wsX7_falseSeat { frames := 4, cells := 0, slots := 0, locals := 85 } (zPre w dom sz G [.ref (w.2.1 + (0)), .int (zI (x))]) (zQi w dom sz (rFalse X x) (fun C => Sim C (mFalse X x) mm) A) (0) (0) A := by
  refine Met.ofW (cc := cX7_falseSeat) (maxL := 3) (ret := (some .int)) (by decide) rfl ?_
  intro p e s m args below meth c s₁ B hml hv
  obtain ⟨rfl, hsz, hP, hK⟩ := hv
  have F : CallFix p m c cX7_falseSeat 3 s _ wsX7_falseSeat RX7 := ⟨B.exec, B.bytes, hml, findClass_of_methodNamed B.named, atoms_spec (ws := wsX7_falseSeat) B.pre⟩
  have hr := B.returns
  have hlocks := B.notSynchronized
  have hZ : Zs w dom A s.heap sz G s.heap [] := ⟨hsz, hP, va_S.rf⟩
  have hl := lv_entry ([.ref (w.2.1 + (0)), .int (zI (x))]) (n := 3) (Nat.le_of_ble_eq_true rfl)
  rw [lg_entry_eq]
  generalize (lg_sl ([.ref (w.2.1 + (0)), .int (zI (x))]) ++ List.replicate (3 - (lg_sl ([.ref (w.2.1 + (0)), .int (zI (x))])).length) Slot.unset).toArray = ls at hl ⊢
  have hl : lv_has ls 3 [(0, .ref (w.2.1 + (0))), (1, .int (zI (x)))] := hl
  have hin6 : ∀ v ∈ u_ws RX6 TX6 15, v ∈ wsX7_falseSeat := by decide +kernel
  have hin7 : ∀ v ∈ u_ws RX7 TX7 6, v ∈ wsX7_falseSeat := by decide +kernel
  have hn := hI.1
  have hLL := hI.2.2.2.1
  have hS : PostS G X mm := hM.1
  obtain ⟨hS1, hS2, hS3, hS4, hS5⟩ := hM.1
  have hC0 := hM.2.1
  refine z_aload_n F dX7_falseSeat_0 rfl (lv_at hl 0 rfl) ?_
  refine z_iload_n F dX7_falseSeat_1 rfl (lv_at hl 1 rfl) ?_
  refine z_bxr hZ (va_runV (As := [.int (zI (x))]) (rest := []) F (k_X7_seated l w dom A hDA sz G X mm hd hdl hM hI x (by omega)) (cwV 1 F.2.2.2.2 gX7_falseSeat_X7_seated rfl rfl rfl (by decide +kernel) ⟨Nat.le_of_ble_eq_true rfl, Nat.le_of_ble_eq_true rfl⟩) (z_preV hK hZ (0) (hd _ (by omega)) rfl (by decide) rfl _) rfl rfl hl.1 rfl (lv_room (Nat.le_of_ble_eq_true rfl)) dX7_falseSeat_2 ⟨Nat.le_of_ble_eq_true rfl, Nat.le_of_ble_eq_true rfl⟩) (fun H locs hZ => ?_)
  refine z_vstore_n (lv' := [(2, zV w (stV X x)), (0, .ref (w.2.1 + (0))), (1, .int (zI (x)))]) F dX7_falseSeat_5 rfl hl (by decide) (by unfold zV; (repeat' split) <;> rfl) (fun ls hl => ?_)
  refine z_vload_n (w := w) F dX7_falseSeat_6 rfl (lv_at hl 0 rfl) ?_
  refine z_ifnonnull (tgt := 12) F dX7_falseSeat_7 (by decide) (fun c_7 => ?_) (fun c_7 => ?_)
  · skip
    obtain ⟨j, rfl, hj0, hj, hz⟩ := stV_pos hn (by assumption)
    rw [hz, zV_nat] at hl
    refine z_aload_n F dX7_falseSeat_12 rfl (lv_at hl 0 rfl) ?_
    refine z_get F hK hZ (8 + 8 * j) (hd _ (by omega)) (shp_seat j hj) (by decide) rfl hin6 1 (by decide) mX7_falseSeat_60 rfl rfl dX7_falseSeat_13 ?_
    have r_1 := hZ.2.1.1 (8 + 8 * j) (1)
    refine z_topI (show G (8 + 8 * j) 1 = X 65 (j : Int) from (Sim_f hM (j := j) (by omega)).2.1) ?_
    have r_2 : -2147483648 ≤ X 65 (j : Int) ∧ X 65 (j : Int) < 2147483648 := by rw [← show G (8 + 8 * j) 1 = X 65 (j : Int) from (Sim_f hM (j := j) (by omega)).2.1]; exact hZ.2.1.1 _ _
    refine z_if_ne (tgt := 26) F (by omega) dX7_falseSeat_16 (by decide) (fun c_16 => ?_) (fun c_16 => ?_)
    · skip
      refine z_bipush F (by decide) dX7_falseSeat_26 ?_
      exact z_iret F hr hlocks hZ (by rw [rFalse, if_neg (by omega), if_pos (by omega)]) (by rw [mFalse, if_neg (by omega), if_pos (by omega)]; exact hM) dX7_falseSeat_28 (by omega) (by omega)
    · skip
      refine z_aload_n F dX7_falseSeat_19 rfl (lv_at hl 1 rfl) ?_
      refine z_get F hK hZ (0) (hd _ (by omega)) rfl (by decide) rfl hin7 4 (by decide) mX7_falseSeat_41 rfl rfl dX7_falseSeat_20 ?_
      have r_3 := hZ.2.1.1 (0) (4)
      refine z_topI (show G 0 4 = X 64 2 from hC0.1) ?_
      have r_4 : -2147483648 ≤ X 64 2 ∧ X 64 2 < 2147483648 := by rw [← show G 0 4 = X 64 2 from hC0.1]; exact hZ.2.1.1 _ _
      refine z_if_eq (tgt := 29) F (by omega) dX7_falseSeat_23 (by decide) (fun c_23 => ?_) (fun c_23 => ?_)
      · skip
        refine z_aload_n F dX7_falseSeat_29 rfl (lv_at hl 0 rfl) ?_
        refine z_iconst F dX7_falseSeat_30 ?_
        refine z_put (z := 1) F hK hZ hDA (8 + 8 * j) (hd _ (by omega)) (shp_seat j hj) (by decide) rfl hin6 tyX6 tyX6_ok nmX6 1 (by decide) mX7_falseSeat_60 rfl rfl rfl rfl (by omega) (kz := 1) rfl rfl (Nat.le_of_ble_eq_true rfl) dX7_falseSeat_31 (fun H locs hZ => ?_)
        have hmf : mFalse X (j : Int) = up X 65 (j : Int) 1 := by rw [mFalse, if_neg (by omega), if_neg (by omega)]
        obtain ⟨G1, hG1⟩ : ∃ zz : zM, zz = up G (8 + 8 * j) (1) (1) := ⟨_, rfl⟩
        obtain ⟨X1, hX1⟩ : ∃ zz : zM, zz = up X 65 (j : Int) 1 := ⟨_, rfl⟩
        have hM1 : Sim G1 X1 mm := by rw [hG1, hX1]; exact Sim_false hM hj
        have hI1 : Inv X1 := by rw [hX1]; exact (by rw [← hmf]; exact (IB_false ⟨hI, hB⟩ (j : Int)).1)
        rw [← hG1] at hZ
        have hC01 := hM1.2.1
        have h640 : X1 64 0 = X 64 0 := by rw [hX1, up_cell _ _ _ (by decide)]
        refine z_aload_n F dX7_falseSeat_34 rfl (lv_at hl 1 rfl) ?_
        refine z_bxi hZ (va_runV (As := []) (rest := []) F (k_X7_falseOnes l w dom A hDA sz G1 X1 mm hd hdl hM1 hI1) (cwV 0 F.2.2.2.2 gX7_falseSeat_X7_falseOnes rfl rfl rfl (by decide +kernel) ⟨Nat.le_of_ble_eq_true rfl, Nat.le_of_ble_eq_true rfl⟩) (z_preV hK hZ (0) (hd _ (by omega)) rfl (by decide) rfl _) rfl rfl hl.1 rfl (lv_room (Nat.le_of_ble_eq_true rfl)) dX7_falseSeat_35 ⟨Nat.le_of_ble_eq_true rfl, Nat.le_of_ble_eq_true rfl⟩) (fun H locs hZ => ?_)
        exact z_iret F hr hlocks hZ (by rw [rFalse, if_neg (by omega), if_neg (by omega), h640, hX1]) (by rw [hmf, ← hX1]; exact hM1) dX7_falseSeat_38 (by omega) (by omega)
      · skip
        refine z_bipush F (by decide) dX7_falseSeat_26 ?_
        exact z_iret F hr hlocks hZ (by rw [rFalse, if_neg (by omega), if_pos (by omega)]) (by rw [mFalse, if_neg (by omega), if_pos (by omega)]; exact hM) dX7_falseSeat_28 (by omega) (by omega)
  · skip
    have hng := stV_neg c_7
    have hbad : ¬ (0 ≤ x ∧ x ≤ X 64 0 - 1) := by omega
    refine z_iconst F dX7_falseSeat_10 ?_
    exact z_iret F hr hlocks hZ (by rw [rFalse, if_pos hbad]) (by rw [mFalse, if_pos hbad]; exact hM) dX7_falseSeat_11 (by omega) (by omega)
