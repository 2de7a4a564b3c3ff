theorem mX8_falseSeat_7 : Cond.fieldLink RX8 7 "LockedChainModel" "isFalse" "[Z" ∈ wsX8_falseSeat := by decide +kernel
theorem mX8_falseSeat_40 : Cond.fieldLink RX8 40 "LockedChainModel" "begun" "Z" ∈ wsX8_falseSeat := by decide +kernel
set_option maxHeartbeats 4000000 in
set_option maxRecDepth 100000 in
theorem k_X8_falseSeat (l : Launch) (w : zW) (dom : Nat → Prop) (A : Nat → Prop) (hDA : ∀ i, dom i → A (w.2.1 + i)) (sz : Nat) (G : zM) (hd : ∀ i, 64 ≤ i ∧ i < 71 → dom i) (hI : Inv G) (x : Int) (hx : -2147483648 ≤ x ∧ x < 2147483648) : Met l yX8_falseSeat wsX8_falseSeat { frames := 2, cells := 0, slots := 0, locals := 43 } (zPre w dom sz G [.ref (w.2.1 + (64)), .int (zI (x))]) (zQi w dom sz (rFalse G x) (fun C => C = mFalse G x) A) (0) (0) A := by
  refine Met.ofW (cc := cX8_falseSeat) (maxL := 2) (ret := (some .int)) (by decide) rfl ?_
  intro p e s m args below meth c s₁ B hml hv
  obtain ⟨rfl, hsz, hP, hK⟩ := hv
  have F : CallFix p m c cX8_falseSeat 2 s _ wsX8_falseSeat RX8 := ⟨B.exec, B.bytes, hml, findClass_of_methodNamed B.named, atoms_spec (ws := wsX8_falseSeat) B.pre⟩
  have hr := B.returns
  have hlocks := B.notSynchronized
  have hZ : Zs w dom A s.heap sz G s.heap [] := ⟨hsz, hP, va_S.rf⟩
  have hl := lv_entry ([.ref (w.2.1 + (64)), .int (zI (x))]) (n := 2) (Nat.le_of_ble_eq_true rfl)
  rw [lg_entry_eq]
  generalize (lg_sl ([.ref (w.2.1 + (64)), .int (zI (x))]) ++ List.replicate (2 - (lg_sl ([.ref (w.2.1 + (64)), .int (zI (x))])).length) Slot.unset).toArray = ls at hl ⊢
  have hl : lv_has ls 2 [(0, .ref (w.2.1 + (64))), (1, .int (zI (x)))] := hl
  have hin8 : ∀ v ∈ u_ws RX8 TX8 10, v ∈ wsX8_falseSeat := by decide +kernel
  have hn := hI.1
  have hL := hI.2.2.2.1
  refine z_aload_n F dX8_falseSeat_0 rfl (lv_at hl 0 rfl) ?_
  refine z_iload_n F dX8_falseSeat_1 rfl (lv_at hl 1 rfl) ?_
  refine z_bxi hZ (va_runV (As := [.int (zI (x))]) (rest := []) F (k_X8_isSeat l w dom A hDA sz G hd (by omega) x (by omega)) (cwV 1 F.2.2.2.2 gX8_falseSeat_X8_isSeat rfl rfl rfl (by decide +kernel) ⟨Nat.le_of_ble_eq_true rfl, Nat.le_of_ble_eq_true rfl⟩) (z_preV hK hZ (64) (hd _ (by omega)) rfl (by decide) rfl _) rfl rfl hl.1 rfl (lv_room (Nat.le_of_ble_eq_true rfl)) dX8_falseSeat_2 ⟨Nat.le_of_ble_eq_true rfl, Nat.le_of_ble_eq_true rfl⟩) (fun H locs hZ => ?_)
  refine z_ifB_ne (tgt := 10) F dX8_falseSeat_5 (by decide) (fun c_5 => ?_) (fun c_5 => ?_)
  · skip
    refine z_aload_n F dX8_falseSeat_10 rfl (lv_at hl 0 rfl) ?_
    refine z_get F hK hZ (64) (hd _ (by omega)) rfl (by decide) rfl hin8 3 (by decide) mX8_falseSeat_7 rfl rfl dX8_falseSeat_11 ?_
    refine z_iload_n F dX8_falseSeat_14 rfl (lv_at hl 1 rfl) ?_
    refine z_zald F hK hZ (65) (hd _ (by omega)) rfl (by decide) (by omega) (by omega) dX8_falseSeat_15 ?_
    have r_1 := hZ.2.1.1 (65) (x)
    refine z_if_ne (tgt := 26) F (by omega) dX8_falseSeat_16 (by decide) (fun c_16 => ?_) (fun c_16 => ?_)
    · skip
      refine z_bipush F (by decide) dX8_falseSeat_26 ?_
      exact z_iret F hr hlocks hZ (by rw [rFalse, if_neg (by omega), if_pos (by omega)]) (by rw [mFalse, if_neg (by omega), if_pos (by omega)]) dX8_falseSeat_28 (by omega) (by omega)
    · skip
      refine z_aload_n F dX8_falseSeat_19 rfl (lv_at hl 0 rfl) ?_
      refine z_get F hK hZ (64) (hd _ (by omega)) rfl (by decide) rfl hin8 2 (by decide) mX8_falseSeat_40 rfl rfl dX8_falseSeat_20 ?_
      have r_2 := hZ.2.1.1 (64) (2)
      refine z_if_eq (tgt := 29) F (by omega) dX8_falseSeat_23 (by decide) (fun c_23 => ?_) (fun c_23 => ?_)
      · skip
        refine z_aload_n F dX8_falseSeat_29 rfl (lv_at hl 0 rfl) ?_
        refine z_get F hK hZ (64) (hd _ (by omega)) rfl (by decide) rfl hin8 3 (by decide) mX8_falseSeat_7 rfl rfl dX8_falseSeat_30 ?_
        refine z_iload_n F dX8_falseSeat_33 rfl (lv_at hl 1 rfl) ?_
        refine z_iconst F dX8_falseSeat_34 ?_
        refine z_zast F hK hZ hDA (65) (hd _ (by omega)) rfl (by decide) (by omega) (by omega) (by omega) dX8_falseSeat_35 (fun H locs hZ => ?_)
        have n0 : (up G (65) (x) (1)) 64 0 = G 64 0 := rfl
        refine z_aload_n F dX8_falseSeat_36 rfl (lv_at hl 0 rfl) ?_
        refine z_bxi hZ (va_runV (As := []) (rest := []) F (k_X8_falseMany l w dom A hDA sz (up G (65) (x) (1)) hd (by omega)) (cwV 0 F.2.2.2.2 gX8_falseSeat_X8_falseMany rfl rfl rfl (by decide +kernel) ⟨Nat.le_of_ble_eq_true rfl, Nat.le_of_ble_eq_true rfl⟩) (z_preV hK hZ (64) (hd _ (by omega)) rfl (by decide) rfl _) rfl rfl hl.1 rfl (lv_room (Nat.le_of_ble_eq_true rfl)) dX8_falseSeat_37 ⟨Nat.le_of_ble_eq_true rfl, Nat.le_of_ble_eq_true rfl⟩) (fun H locs hZ => ?_)
        have r_3 := cntB_rng (fun t => decide ((up G (65) (x) (1)) 65 (t : Int) ≠ 0)) ((up G (65) (x) (1)) 64 0).toNat
        exact z_iret F hr hlocks hZ (by rw [rFalse, if_neg (by omega), if_neg (by omega)]; rfl) (by rw [mFalse, if_neg (by omega), if_neg (by omega)]) dX8_falseSeat_40 (by omega) (by omega)
      · skip
        refine z_bipush F (by decide) dX8_falseSeat_26 ?_
        exact z_iret F hr hlocks hZ (by rw [rFalse, if_neg (by omega), if_pos (by omega)]) (by rw [mFalse, if_neg (by omega), if_pos (by omega)]) dX8_falseSeat_28 (by omega) (by omega)
  · skip
    refine z_iconst F dX8_falseSeat_8 ?_
    exact z_iret F hr hlocks hZ (by rw [rFalse, if_pos (by omega)]) (by rw [mFalse, if_pos (by omega)]) dX8_falseSeat_9 (by omega) (by omega)

theorem mX8_hold_13 : Cond.fieldLink RX8 13 "LockedChainModel" "holds" "[Z" ∈ wsX8_hold := by decide +kernel
set_option maxHeartbeats 4000000 in
set_option maxRecDepth 100000 in
theorem k_X8_hold (l : Launch) (w : zW) (dom : Nat → Prop) (A : Nat → Prop) (hDA : ∀ i, dom i → A (w.2.1 + i)) (sz : Nat) (G : zM) (hd : ∀ i, 64 ≤ i ∧ i < 71 → dom i) (hI : Inv G) (x v : Int) (hx : -2147483648 ≤ x ∧ x < 2147483648) (hv : -2147483648 ≤ v ∧ v < 2147483648) : Met l yX8_hold wsX8_hold { frames := 2, cells := 0, slots := 0, locals := 43 } (zPre w dom sz G [.ref (w.2.1 + (64)), .int (zI (x)), .int (zI (v))]) (zQi w dom sz (rHold G x v) (fun C => C = mHold G x v) A) (0) (0) A := by
  refine Met.ofW (cc := cX8_hold) (maxL := 4) (ret := (some .int)) (by decide) rfl ?_
  intro p e s m args below meth c s₁ B hml hv
  obtain ⟨rfl, hsz, hP, hK⟩ := hv
  have F : CallFix p m c cX8_hold 4 s _ wsX8_hold RX8 := ⟨B.exec, B.bytes, hml, findClass_of_methodNamed B.named, atoms_spec (ws := wsX8_hold) B.pre⟩
  have hr := B.returns
  have hlocks := B.notSynchronized
  have hZ : Zs w dom A s.heap sz G s.heap [] := ⟨hsz, hP, va_S.rf⟩
  have hl := lv_entry ([.ref (w.2.1 + (64)), .int (zI (x)), .int (zI (v))]) (n := 4) (Nat.le_of_ble_eq_true rfl)
  rw [lg_entry_eq]
  generalize (lg_sl ([.ref (w.2.1 + (64)), .int (zI (x)), .int (zI (v))]) ++ List.replicate (4 - (lg_sl ([.ref (w.2.1 + (64)), .int (zI (x)), .int (zI (v))])).length) Slot.unset).toArray = ls at hl ⊢
  have hl : lv_has ls 4 [(0, .ref (w.2.1 + (64))), (1, .int (zI (x))), (2, .int (zI (v)))] := hl
  have hin8 : ∀ v ∈ u_ws RX8 TX8 10, v ∈ wsX8_hold := by decide +kernel
  have hn := hI.1
  have hL := hI.2.2.2.1
  refine z_aload_n F dX8_hold_0 rfl (lv_at hl 0 rfl) ?_
  refine z_iload_n F dX8_hold_1 rfl (lv_at hl 1 rfl) ?_
  refine z_bxi hZ (va_runV (As := [.int (zI (x))]) (rest := []) F (k_X8_isSeat l w dom A hDA sz G hd (by omega) x (by omega)) (cwV 1 F.2.2.2.2 gX8_hold_X8_isSeat rfl rfl rfl (by decide +kernel) ⟨Nat.le_of_ble_eq_true rfl, Nat.le_of_ble_eq_true rfl⟩) (z_preV hK hZ (64) (hd _ (by omega)) rfl (by decide) rfl _) rfl rfl hl.1 rfl (lv_room (Nat.le_of_ble_eq_true rfl)) dX8_hold_2 ⟨Nat.le_of_ble_eq_true rfl, Nat.le_of_ble_eq_true rfl⟩) (fun H locs hZ => ?_)
  refine z_ifB_eq (tgt := 18) F dX8_hold_5 (by decide) (fun c_5 => ?_) (fun c_5 => ?_)
  · skip
    refine z_iconst F dX8_hold_18 ?_
    exact z_iret F hr hlocks hZ (by rw [rHold, if_pos (by omega)]) (by rw [mHold, if_pos (by omega)]) dX8_hold_19 (by omega) (by omega)
  · skip
    refine z_iload_n F dX8_hold_8 rfl (lv_at hl 2 rfl) ?_
    refine z_iconst F dX8_hold_9 ?_
    refine z_bipush F (by decide) dX8_hold_10 ?_
    refine z_bxi hZ (va_runS (As := [.int (zI (v)), .int (zI (1)), .int (zI (99))]) (rest := []) F (k_X8_in l w dom A hDA sz G v 1 99 (by omega) (by omega) (by omega)) (va_cwS 3 F.2.2.2.2 gX8_hold_X8_in rfl rfl rfl (by decide +kernel) ⟨Nat.le_of_ble_eq_true rfl, Nat.le_of_ble_eq_true rfl⟩) (z_preS hK hZ _) rfl rfl hl.1 rfl (lv_room (Nat.le_of_ble_eq_true rfl)) dX8_hold_12 ⟨Nat.le_of_ble_eq_true rfl, Nat.le_of_ble_eq_true rfl⟩) (fun H locs hZ => ?_)
    refine z_ifB_ne (tgt := 20) F dX8_hold_15 (by decide) (fun c_15 => ?_) (fun c_15 => ?_)
    · skip
      refine z_aload_n F dX8_hold_20 rfl (lv_at hl 0 rfl) ?_
      refine z_get F hK hZ (64) (hd _ (by omega)) rfl (by decide) rfl hin8 4 (by decide) mX8_hold_13 rfl rfl dX8_hold_21 ?_
      refine z_bipush F (by decide) dX8_hold_24 ?_
      refine z_iload_n F dX8_hold_26 rfl (lv_at hl 1 rfl) ?_
      refine z_imul F dX8_hold_27 ?_
      refine z_iload_n F dX8_hold_28 rfl (lv_at hl 2 rfl) ?_
      refine z_iadd F dX8_hold_29 ?_
      refine z_zald F hK hZ (66) (hd _ (by omega)) rfl (by decide) (by omega) (by omega) dX8_hold_30 ?_
      have r_1 := hZ.2.1.1 (66) (100 * x + v)
      refine z_istore_n (lv' := [(3, .int (zI (G (66) (100 * x + v)))), (0, .ref (w.2.1 + (64))), (1, .int (zI (x))), (2, .int (zI (v)))]) F dX8_hold_31 rfl hl (by decide) rfl (fun ls hl => ?_)
      refine z_aload_n F dX8_hold_32 rfl (lv_at hl 1 rfl) ?_
      refine z_get F hK hZ (64) (hd _ (by omega)) rfl (by decide) rfl hin8 4 (by decide) mX8_hold_13 rfl rfl dX8_hold_33 ?_
      refine z_bipush F (by decide) dX8_hold_36 ?_
      refine z_iload_n F dX8_hold_38 rfl (lv_at hl 2 rfl) ?_
      refine z_imul F dX8_hold_39 ?_
      refine z_iload_n F dX8_hold_40 rfl (lv_at hl 3 rfl) ?_
      refine z_iadd F dX8_hold_41 ?_
      refine z_iconst F dX8_hold_42 ?_
      refine z_zast F hK hZ hDA (66) (hd _ (by omega)) rfl (by decide) (by omega) (by omega) (by omega) dX8_hold_43 (fun H locs hZ => ?_)
      refine z_iload_n F dX8_hold_44 rfl (lv_at hl 0 rfl) ?_
      refine z_if_eq (tgt := 52) F (by omega) dX8_hold_45 (by decide) (fun c_45 => ?_) (fun c_45 => ?_)
      · skip
        refine z_iconst F dX8_hold_52 ?_
        exact z_iret F hr hlocks hZ (by rw [rHold, if_neg (by omega)]; first | rw [if_pos c_45] | rw [if_neg (by omega)]) (by rw [mHold, if_neg (by omega)]) dX8_hold_53 (by omega) (by omega)
      · skip
        refine z_iconst F dX8_hold_48 ?_
        refine lv_goto (tgt := 53) F.1 F.2.1 dX8_hold_49 (by decide) ?_
        exact z_iret F hr hlocks hZ (by rw [rHold, if_neg (by omega)]; first | rw [if_pos c_45] | rw [if_neg (by omega)]) (by rw [mHold, if_neg (by omega)]) dX8_hold_53 (by omega) (by omega)
    · skip
      refine z_iconst F dX8_hold_18 ?_
      exact z_iret F hr hlocks hZ (by rw [rHold, if_pos (by omega)]) (by rw [mHold, if_pos (by omega)]) dX8_hold_19 (by omega) (by omega)

theorem mX8_begin_7 : Cond.fieldLink RX8 7 "LockedChainModel" "isFalse" "[Z" ∈ wsX8_begin := by decide +kernel
theorem mX8_begin_29 : Cond.fieldLink RX8 29 "LockedChainModel" "n" "I" ∈ wsX8_begin := by decide +kernel
theorem mX8_begin_40 : Cond.fieldLink RX8 40 "LockedChainModel" "begun" "Z" ∈ wsX8_begin := by decide +kernel
theorem mX8_begin_44 : Cond.fieldLink RX8 44 "LockedChainModel" "letters" "I" ∈ wsX8_begin := by decide +kernel
set_option maxHeartbeats 4000000 in
set_option maxRecDepth 100000 in
theorem k_X8_begin (l : Launch) (w : zW) (dom : Nat → Prop) (A : Nat → Prop) (hDA : ∀ i, dom i → A (w.2.1 + i)) (sz : Nat) (G : zM) (hd : ∀ i, 64 ≤ i ∧ i < 71 → dom i) (hI : Inv G) (hB : InvB G) : Met l yX8_begin wsX8_begin { frames := 6, cells := 0, slots := 0, locals := 136 } (zPre w dom sz G [.ref (w.2.1 + (64))]) (zQi w dom sz (rBegin G) (fun C => C = mBegin G) A) (0) (0) A := by
  refine Met.ofW (cc := cX8_begin) (maxL := 2) (ret := (some .int)) (by decide) rfl ?_
  intro p e s m args below meth c s₁ B hml hv
  obtain ⟨rfl, hsz, hP, hK⟩ := hv
  have F : CallFix p m c cX8_begin 2 s _ wsX8_begin RX8 := ⟨B.exec, B.bytes, hml, findClass_of_methodNamed B.named, atoms_spec (ws := wsX8_begin) B.pre⟩
  have hr := B.returns
  have hlocks := B.notSynchronized
  have hZ : Zs w dom A s.heap sz G s.heap [] := ⟨hsz, hP, va_S.rf⟩
  have hl := lv_entry ([.ref (w.2.1 + (64))]) (n := 2) (Nat.le_of_ble_eq_true rfl)
  rw [lg_entry_eq]
  generalize (lg_sl ([.ref (w.2.1 + (64))]) ++ List.replicate (2 - (lg_sl ([.ref (w.2.1 + (64))])).length) Slot.unset).toArray = ls at hl ⊢
  have hl : lv_has ls 2 [(0, .ref (w.2.1 + (64)))] := hl
  have hin8 : ∀ v ∈ u_ws RX8 TX8 10, v ∈ wsX8_begin := by decide +kernel
  have hn := hI.1
  have hL := hI.2.2.2.1
  refine z_aload_n F dX8_begin_0 rfl (lv_at hl 0 rfl) ?_
  refine z_get F hK hZ (64) (hd _ (by omega)) rfl (by decide) rfl hin8 2 (by decide) mX8_begin_40 rfl rfl dX8_begin_1 ?_
  have r_1 := hZ.2.1.1 (64) (2)
  refine z_if_eq (tgt := 10) F (by omega) dX8_begin_4 (by decide) (fun c_4 => ?_) (fun c_4 => ?_)
  · skip
    have hb := Inv_begin hI hB c_4
    have hI1 := Inv_begun hI
    have n0 : up G 64 2 1 64 0 = G 64 0 := rfl
    refine z_aload_n F dX8_begin_10 rfl (lv_at hl 0 rfl) ?_
    refine z_iconst F dX8_begin_11 ?_
    refine z_put (z := 1) F hK hZ hDA (64) (hd _ (by omega)) rfl (by decide) rfl hin8 tyX8 tyX8_ok nmX8 2 (by decide) mX8_begin_40 rfl rfl rfl rfl (by omega) (kz := 2) rfl rfl (Nat.le_of_ble_eq_true rfl) dX8_begin_12 (fun H locs hZ => ?_)
    refine z_iconst F dX8_begin_15 ?_
    refine z_istore_n (lv' := [(1, .int (zI (0))), (0, .ref (w.2.1 + (64)))]) F dX8_begin_16 rfl hl (by decide) rfl (fun ls hl => ?_)
    have L_17 : ∀ (nf : Nat) (i : Nat) (M : zM), ((G 64 0).toNat + 1 ≤ i + nf) → (i ≤ (G 64 0).toNat) → (Inv M) → (M 64 0 = G 64 0) → (∀ z : Int, (i : Int) ≤ z → z < M 64 0 → M 67 (20 * z + 0) ≤ 5) → (beginS ((G 64 0).toNat - i) i M = beginM G) →  ∀ (H : Heap) (locs : List Loc) (ls : Array Slot), Zs w dom A s.heap sz M H locs → lv_has ls 2 [(0, .ref (w.2.1 + (64))), (1, .int (zI ((i : Int))))] → W p l e (headSpec wsX8_begin { frames := 6, cells := 0, slots := 0, locals := 136 }).room s m ([.ref (w.2.1 + (64))] : List Value).toArray below meth c H locs (0) (0) (MQ below (zQi w dom sz (rBegin G) (fun C => C = mBegin G) A) ([.ref (w.2.1 + (64))] : List Value).toArray s (0) (0) A) (F0 m 17 ls []) := by
      intro nf
      induction nf with
      | zero => intro i  M  h17_0 h17_1 h17_2 h17_3 h17_4 h17_5; exact absurd h17_0 (by omega)
      | succ nf ih_17 =>
        intro i  M  h17_0 h17_1 h17_2 h17_3 h17_4 h17_5 H locs ls hZ hl
        have hL1 := h17_2.2.2.2.1
        refine z_iload_n F dX8_begin_17 rfl (lv_at hl 1 rfl) ?_
        refine z_aload_n F dX8_begin_18 rfl (lv_at hl 0 rfl) ?_
        refine z_get F hK hZ (64) (hd _ (by omega)) rfl (by decide) rfl hin8 0 (by decide) mX8_begin_29 rfl rfl dX8_begin_19 ?_
        have r_2 := hZ.2.1.1 (64) (0)
        refine z_icmp_ge (tgt := 51) F (by omega) (by omega) dX8_begin_22 (by decide) (fun c_22 => ?_) (fun c_22 => ?_)
        · skip
          refine z_aload_n F dX8_begin_51 rfl (lv_at hl 0 rfl) ?_
          refine z_get F hK hZ (64) (hd _ (by omega)) rfl (by decide) rfl hin8 7 (by decide) mX8_begin_44 rfl rfl dX8_begin_52 ?_
          have r_3 := hZ.2.1.1 (64) (7)
          exact z_iret F hr hlocks hZ (by rw [rBegin, if_neg (by omega), ← h17_5, show (G 64 0).toNat - i = 0 by omega]; rfl) (by rw [mBegin, if_neg (by omega), ← h17_5, show (G 64 0).toNat - i = 0 by omega]; rfl) dX8_begin_55 (by omega) (by omega)
        · skip
          refine z_aload_n F dX8_begin_25 rfl (lv_at hl 0 rfl) ?_
          refine z_get F hK hZ (64) (hd _ (by omega)) rfl (by decide) rfl hin8 3 (by decide) mX8_begin_7 rfl rfl dX8_begin_26 ?_
          refine z_iload_n F dX8_begin_29 rfl (lv_at hl 1 rfl) ?_
          refine z_zald F hK hZ (65) (hd _ (by omega)) rfl (by decide) (by omega) (by omega) dX8_begin_30 ?_
          have r_4 := hZ.2.1.1 (65) ((i : Int))
          refine z_if_ne (tgt := 45) F (by omega) dX8_begin_31 (by decide) (fun c_31 => ?_) (fun c_31 => ?_)
          · skip
            refine z_iinc (k := 1) (z := (i : Int)) (lv' := [(1, .int (zI ((i : Int) + 1))), (0, .ref (w.2.1 + (64)))]) F dX8_begin_45 hl rfl (by decide) rfl (fun ls hl => ?_)
            refine lv_goto (tgt := 17) F.1 F.2.1 dX8_begin_48 (by decide) ?_
            exact ih_17 (i + 1) (M) (by omega) (by omega) h17_2 h17_3 (fun z a b => h17_4 z (by omega) b) (by rw [← h17_5, beginS_f (by omega) c_31, Nat.sub_sub]) _ _ _ hZ (lv_sub hl [1, 0] rfl)
          · skip
            have iS := seat_rng h17_2 (s := (i : Int)) (by omega)
            have hS := Nx_starts h17_2 (s := (i : Int)) (r := 0) (by omega) c_31 (h17_4 i (by omega) (by omega)) (by omega)
            have hS0 := hS.2.1.1
            have hR := hS.tr (Nx_rules hS.1 (s := (i : Int)) (by omega))
            have hF : Fx M (rulesM (startsM M (i : Int) 0) (i : Int)) (i : Int) := (Fx_starts M (i : Int) 0).tr (Fx_rulesF fuelR (startsM M (i : Int) 0))
            refine z_aload_n F dX8_begin_34 rfl (lv_at hl 0 rfl) ?_
            refine z_iload_n F dX8_begin_35 rfl (lv_at hl 1 rfl) ?_
            refine z_iconst F dX8_begin_36 ?_
            refine z_bxv hZ (va_runV (As := [.int (zI ((i : Int))), .int (zI (0))]) (rest := []) F (k_X8_starts l w dom A hDA sz M hd (by omega) (by omega) ((i : Int)) 0 (by omega) (by omega) (by omega)) (cwV 2 F.2.2.2.2 gX8_begin_X8_starts rfl rfl rfl (by decide +kernel) ⟨Nat.le_of_ble_eq_true rfl, Nat.le_of_ble_eq_true rfl⟩) (z_preV hK hZ (64) (hd _ (by omega)) rfl (by decide) rfl _) rfl rfl hl.1 rfl (lv_room (Nat.le_of_ble_eq_true rfl)) dX8_begin_37 ⟨Nat.le_of_ble_eq_true rfl, Nat.le_of_ble_eq_true rfl⟩) (fun H locs hZ => ?_)
            refine z_aload_n F dX8_begin_40 rfl (lv_at hl 0 rfl) ?_
            refine z_iload_n F dX8_begin_41 rfl (lv_at hl 1 rfl) ?_
            refine z_bxv hZ (va_runV (As := [.int (zI ((i : Int)))]) (rest := []) F (k_X8_rules l w dom A hDA sz (startsM M ((i : Int)) 0) hd hS.1 ((i : Int)) (by omega) (by omega)) (cwV 1 F.2.2.2.2 gX8_begin_X8_rules rfl rfl rfl (by decide +kernel) ⟨Nat.le_of_ble_eq_true rfl, Nat.le_of_ble_eq_true rfl⟩) (z_preV hK hZ (64) (hd _ (by omega)) rfl (by decide) rfl _) rfl rfl hl.1 rfl (lv_room (Nat.le_of_ble_eq_true rfl)) dX8_begin_42 ⟨Nat.le_of_ble_eq_true rfl, Nat.le_of_ble_eq_true rfl⟩) (fun H locs hZ => ?_)
            refine z_iinc (k := 1) (z := (i : Int)) (lv' := [(1, .int (zI ((i : Int) + 1))), (0, .ref (w.2.1 + (64)))]) F dX8_begin_45 hl rfl (by decide) rfl (fun ls hl => ?_)
            refine lv_goto (tgt := 17) F.1 F.2.1 dX8_begin_48 (by decide) ?_
            exact ih_17 (i + 1) (rulesM (startsM M ((i : Int)) 0) ((i : Int))) (by omega) (by omega) (by exact hR.1) (by rw [hR.2.1.1]; exact h17_3) (fun z a b => by rw [hF (20 * z + 0) (by omega)]; exact h17_4 z (by omega) (by rw [hR.2.1.1] at b; exact b)) (by rw [← h17_5, beginS_t (by omega) c_31, Nat.sub_sub]) _ _ _ hZ (lv_sub hl [1, 0] rfl)
    exact L_17 ((G 64 0).toNat + 1) 0 (up G 64 2 1) (by omega) (by omega) hI1 rfl (fun z a b => by rw [up_cell _ _ _ (show (67 : Nat) ≠ 64 by decide), ((hB c_4).2 z (by omega) (by omega)).1]; decide) rfl _ _ _ hZ (lv_sub hl [1, 0] rfl)
  · skip
    refine z_bipush F (by decide) dX8_begin_7 ?_
    exact z_iret F hr hlocks hZ (by rw [rBegin, if_pos c_4]) (by rw [mBegin, if_pos c_4]) dX8_begin_9 (by omega) (by omega)

theorem mX8_say_7 : Cond.fieldLink RX8 7 "LockedChainModel" "isFalse" "[Z" ∈ wsX8_say := by decide +kernel
theorem mX8_say_40 : Cond.fieldLink RX8 40 "LockedChainModel" "begun" "Z" ∈ wsX8_say := by decide +kernel
theorem mX8_say_44 : Cond.fieldLink RX8 44 "LockedChainModel" "letters" "I" ∈ wsX8_say := by decide +kernel
set_option maxHeartbeats 4000000 in
set_option maxRecDepth 100000 in
theorem k_X8_say (l : Launch) (w : zW) (dom : Nat → Prop) (A : Nat → Prop) (hDA : ∀ i, dom i → A (w.2.1 + i)) (sz : Nat) (G : zM) (hd : ∀ i, 64 ≤ i ∧ i < 71 → dom i) (hI : Inv G) (x kd h r v vr : Int) (hx : -2147483648 ≤ x ∧ x < 2147483648) (hkd : -2147483648 ≤ kd ∧ kd < 2147483648) (hh : -2147483648 ≤ h ∧ h < 2147483648) (hr : -2147483648 ≤ r ∧ r < 2147483648) (hv : -2147483648 ≤ v ∧ v < 2147483648) (hvr : -2147483648 ≤ vr ∧ vr < 2147483648) : Met l yX8_say wsX8_say { frames := 2, cells := 0, slots := 0, locals := 43 } (zPre w dom sz G [.ref (w.2.1 + (64)), .int (zI (x)), .int (zI (kd)), .int (zI (h)), .int (zI (r)), .int (zI (v)), .int (zI (vr))]) (zQi w dom sz (rSay G x kd h r v vr) (fun C => C = mSay G x kd h r v vr) A) (0) (0) A := by
  refine Met.ofW (cc := cX8_say) (maxL := 8) (ret := (some .int)) (by decide) rfl ?_
  intro p e s m args below meth c s₁ B hml hv
  obtain ⟨rfl, hsz, hP, hK⟩ := hv
  have F : CallFix p m c cX8_say 8 s _ wsX8_say RX8 := ⟨B.exec, B.bytes, hml, findClass_of_methodNamed B.named, atoms_spec (ws := wsX8_say) B.pre⟩
  have hr := B.returns
  have hlocks := B.notSynchronized
  have hZ : Zs w dom A s.heap sz G s.heap [] := ⟨hsz, hP, va_S.rf⟩
  have hl := lv_entry ([.ref (w.2.1 + (64)), .int (zI (x)), .int (zI (kd)), .int (zI (h)), .int (zI (r)), .int (zI (v)), .int (zI (vr))]) (n := 8) (Nat.le_of_ble_eq_true rfl)
  rw [lg_entry_eq]
  generalize (lg_sl ([.ref (w.2.1 + (64)), .int (zI (x)), .int (zI (kd)), .int (zI (h)), .int (zI (r)), .int (zI (v)), .int (zI (vr))]) ++ List.replicate (8 - (lg_sl ([.ref (w.2.1 + (64)), .int (zI (x)), .int (zI (kd)), .int (zI (h)), .int (zI (r)), .int (zI (v)), .int (zI (vr))])).length) Slot.unset).toArray = ls at hl ⊢
  have hl : lv_has ls 8 [(0, .ref (w.2.1 + (64))), (1, .int (zI (x))), (2, .int (zI (kd))), (3, .int (zI (h))), (4, .int (zI (r))), (5, .int (zI (v))), (6, .int (zI (vr)))] := hl
  have hin8 : ∀ v ∈ u_ws RX8 TX8 10, v ∈ wsX8_say := by decide +kernel
  have hn := hI.1
  have hL := hI.2.2.2.1
  refine z_aload_n F dX8_say_0 rfl (lv_at hl 0 rfl) ?_
  refine z_iload_n F dX8_say_1 rfl (lv_at hl 1 rfl) ?_
  refine z_bxi hZ (va_runV (As := [.int (zI (x))]) (rest := []) F (k_X8_isSeat l w dom A hDA sz G hd (by omega) x (by omega)) (cwV 1 F.2.2.2.2 gX8_say_X8_isSeat rfl rfl rfl (by decide +kernel) ⟨Nat.le_of_ble_eq_true rfl, Nat.le_of_ble_eq_true rfl⟩) (z_preV hK hZ (64) (hd _ (by omega)) rfl (by decide) rfl _) rfl rfl hl.1 rfl (lv_room (Nat.le_of_ble_eq_true rfl)) dX8_say_2 ⟨Nat.le_of_ble_eq_true rfl, Nat.le_of_ble_eq_true rfl⟩) (fun H locs hZ => ?_)
  refine z_ifB_eq (tgt := 75) F dX8_say_5 (by decide) (fun c_5 => ?_) (fun c_5 => ?_)
  · skip
    refine z_iconst F dX8_say_75 ?_
    refine z_istore (lv' := [(7, .int (zI (0))), (0, .ref (w.2.1 + (64))), (1, .int (zI (x))), (2, .int (zI (kd))), (3, .int (zI (h))), (4, .int (zI (r))), (5, .int (zI (v))), (6, .int (zI (vr)))]) F dX8_say_76 hl (by decide) rfl (fun ls hl => ?_)
    refine z_iload F dX8_say_78 (lv_at hl 0 rfl) ?_
    refine z_if_ne (tgt := 85) F (by omega) dX8_say_80 (by decide) (fun c_80 => ?_) (fun c_80 => ?_)
    · skip
      exfalso; omega
    · skip
      refine z_iconst F dX8_say_83 ?_
      exact z_iret F hr hlocks hZ (by rw [rSay, if_pos (by unfold okSay; omega)]) (by rw [mSay, if_pos (by unfold okSay; omega)]) dX8_say_84 (by omega) (by omega)
  · skip
    refine z_iload_n F dX8_say_8 rfl (lv_at hl 2 rfl) ?_
    refine z_iconst F dX8_say_9 ?_
    refine z_iconst F dX8_say_10 ?_
    refine z_bxi hZ (va_runS (As := [.int (zI (kd)), .int (zI (0)), .int (zI (2))]) (rest := []) F (k_X8_in l w dom A hDA sz G kd 0 2 (by omega) (by omega) (by omega)) (va_cwS 3 F.2.2.2.2 gX8_say_X8_in rfl rfl rfl (by decide +kernel) ⟨Nat.le_of_ble_eq_true rfl, Nat.le_of_ble_eq_true rfl⟩) (z_preS hK hZ _) rfl rfl hl.1 rfl (lv_room (Nat.le_of_ble_eq_true rfl)) dX8_say_11 ⟨Nat.le_of_ble_eq_true rfl, Nat.le_of_ble_eq_true rfl⟩) (fun H locs hZ => ?_)
    refine z_ifB_eq (tgt := 75) F dX8_say_14 (by decide) (fun c_14 => ?_) (fun c_14 => ?_)
    · skip
      refine z_iconst F dX8_say_75 ?_
      refine z_istore (lv' := [(7, .int (zI (0))), (0, .ref (w.2.1 + (64))), (1, .int (zI (x))), (2, .int (zI (kd))), (3, .int (zI (h))), (4, .int (zI (r))), (5, .int (zI (v))), (6, .int (zI (vr)))]) F dX8_say_76 hl (by decide) rfl (fun ls hl => ?_)
      refine z_iload F dX8_say_78 (lv_at hl 0 rfl) ?_
      refine z_if_ne (tgt := 85) F (by omega) dX8_say_80 (by decide) (fun c_80 => ?_) (fun c_80 => ?_)
      · skip
        exfalso; omega
      · skip
        refine z_iconst F dX8_say_83 ?_
        exact z_iret F hr hlocks hZ (by rw [rSay, if_pos (by unfold okSay; omega)]) (by rw [mSay, if_pos (by unfold okSay; omega)]) dX8_say_84 (by omega) (by omega)
    · skip
      refine z_iload_n F dX8_say_17 rfl (lv_at hl 3 rfl) ?_
      refine z_iconst F dX8_say_18 ?_
      refine z_iconst F dX8_say_19 ?_
      refine z_bxi hZ (va_runS (As := [.int (zI (h)), .int (zI (0)), .int (zI (5))]) (rest := []) F (k_X8_in l w dom A hDA sz G h 0 5 (by omega) (by omega) (by omega)) (va_cwS 3 F.2.2.2.2 gX8_say_X8_in rfl rfl rfl (by decide +kernel) ⟨Nat.le_of_ble_eq_true rfl, Nat.le_of_ble_eq_true rfl⟩) (z_preS hK hZ _) rfl rfl hl.1 rfl (lv_room (Nat.le_of_ble_eq_true rfl)) dX8_say_20 ⟨Nat.le_of_ble_eq_true rfl, Nat.le_of_ble_eq_true rfl⟩) (fun H locs hZ => ?_)
      refine z_ifB_eq (tgt := 75) F dX8_say_23 (by decide) (fun c_23 => ?_) (fun c_23 => ?_)
      · skip
        refine z_iconst F dX8_say_75 ?_
        refine z_istore (lv' := [(7, .int (zI (0))), (0, .ref (w.2.1 + (64))), (1, .int (zI (x))), (2, .int (zI (kd))), (3, .int (zI (h))), (4, .int (zI (r))), (5, .int (zI (v))), (6, .int (zI (vr)))]) F dX8_say_76 hl (by decide) rfl (fun ls hl => ?_)
        refine z_iload F dX8_say_78 (lv_at hl 0 rfl) ?_
        refine z_if_ne (tgt := 85) F (by omega) dX8_say_80 (by decide) (fun c_80 => ?_) (fun c_80 => ?_)
        · skip
          exfalso; omega
        · skip
          refine z_iconst F dX8_say_83 ?_
          exact z_iret F hr hlocks hZ (by rw [rSay, if_pos (by unfold okSay; omega)]) (by rw [mSay, if_pos (by unfold okSay; omega)]) dX8_say_84 (by omega) (by omega)
      · skip
        refine z_iload F dX8_say_26 (lv_at hl 4 rfl) ?_
        refine z_iconst F dX8_say_28 ?_
        refine z_bipush F (by decide) dX8_say_29 ?_
        refine z_bxi hZ (va_runS (As := [.int (zI (r)), .int (zI (0)), .int (zI (9))]) (rest := []) F (k_X8_in l w dom A hDA sz G r 0 9 (by omega) (by omega) (by omega)) (va_cwS 3 F.2.2.2.2 gX8_say_X8_in rfl rfl rfl (by decide +kernel) ⟨Nat.le_of_ble_eq_true rfl, Nat.le_of_ble_eq_true rfl⟩) (z_preS hK hZ _) rfl rfl hl.1 rfl (lv_room (Nat.le_of_ble_eq_true rfl)) dX8_say_31 ⟨Nat.le_of_ble_eq_true rfl, Nat.le_of_ble_eq_true rfl⟩) (fun H locs hZ => ?_)
        refine z_ifB_eq (tgt := 75) F dX8_say_34 (by decide) (fun c_34 => ?_) (fun c_34 => ?_)
        · skip
          refine z_iconst F dX8_say_75 ?_
          refine z_istore (lv' := [(7, .int (zI (0))), (0, .ref (w.2.1 + (64))), (1, .int (zI (x))), (2, .int (zI (kd))), (3, .int (zI (h))), (4, .int (zI (r))), (5, .int (zI (v))), (6, .int (zI (vr)))]) F dX8_say_76 hl (by decide) rfl (fun ls hl => ?_)
          refine z_iload F dX8_say_78 (lv_at hl 0 rfl) ?_
          refine z_if_ne (tgt := 85) F (by omega) dX8_say_80 (by decide) (fun c_80 => ?_) (fun c_80 => ?_)
          · skip
            exfalso; omega
          · skip
            refine z_iconst F dX8_say_83 ?_
            exact z_iret F hr hlocks hZ (by rw [rSay, if_pos (by unfold okSay; omega)]) (by rw [mSay, if_pos (by unfold okSay; omega)]) dX8_say_84 (by omega) (by omega)
        · skip
          refine z_iload F dX8_say_37 (lv_at hl 5 rfl) ?_
          refine z_iload_n F dX8_say_39 rfl (lv_at hl 2 rfl) ?_
          refine z_if_ne (tgt := 47) F (by omega) dX8_say_40 (by decide) (fun c_40 => ?_) (fun c_40 => ?_)
          · skip
            refine z_iconst F dX8_say_47 ?_
            refine z_bipush F (by decide) dX8_say_48 ?_
            refine z_bxi hZ (va_runS (As := [.int (zI (v)), .int (zI (-1)), .int (zI (99))]) (rest := []) F (k_X8_in l w dom A hDA sz G v (-1) 99 (by omega) (by omega) (by omega)) (va_cwS 3 F.2.2.2.2 gX8_say_X8_in rfl rfl rfl (by decide +kernel) ⟨Nat.le_of_ble_eq_true rfl, Nat.le_of_ble_eq_true rfl⟩) (z_preS hK hZ _) rfl rfl hl.1 rfl (lv_room (Nat.le_of_ble_eq_true rfl)) dX8_say_50 ⟨Nat.le_of_ble_eq_true rfl, Nat.le_of_ble_eq_true rfl⟩) (fun H locs hZ => ?_)
            refine z_ifB_eq (tgt := 75) F dX8_say_53 (by decide) (fun c_53 => ?_) (fun c_53 => ?_)
            · skip
              refine z_iconst F dX8_say_75 ?_
              refine z_istore (lv' := [(7, .int (zI (0))), (0, .ref (w.2.1 + (64))), (1, .int (zI (x))), (2, .int (zI (kd))), (3, .int (zI (h))), (4, .int (zI (r))), (5, .int (zI (v))), (6, .int (zI (vr)))]) F dX8_say_76 hl (by decide) rfl (fun ls hl => ?_)
              refine z_iload F dX8_say_78 (lv_at hl 0 rfl) ?_
              refine z_if_ne (tgt := 85) F (by omega) dX8_say_80 (by decide) (fun c_80 => ?_) (fun c_80 => ?_)
              · skip
                exfalso; omega
              · skip
                refine z_iconst F dX8_say_83 ?_
                exact z_iret F hr hlocks hZ (by rw [rSay, if_pos (by unfold okSay; omega)]) (by rw [mSay, if_pos (by unfold okSay; omega)]) dX8_say_84 (by omega) (by omega)
            · skip
              refine z_iload_n F dX8_say_56 rfl (lv_at hl 2 rfl) ?_
              refine z_if_gt (tgt := 71) F (by omega) dX8_say_57 (by decide) (fun c_57 => ?_) (fun c_57 => ?_)
              · skip
                refine z_iconst F dX8_say_71 ?_
                refine lv_goto (tgt := 76) F.1 F.2.1 dX8_say_72 (by decide) ?_
                refine z_istore (lv' := [(7, .int (zI (1))), (0, .ref (w.2.1 + (64))), (1, .int (zI (x))), (2, .int (zI (kd))), (3, .int (zI (h))), (4, .int (zI (r))), (5, .int (zI (v))), (6, .int (zI (vr)))]) F dX8_say_76 hl (by decide) rfl (fun ls hl => ?_)
                refine z_iload F dX8_say_78 (lv_at hl 0 rfl) ?_
                refine z_if_ne (tgt := 85) F (by omega) dX8_say_80 (by decide) (fun c_80 => ?_) (fun c_80 => ?_)
                · skip
                  refine z_aload_n F dX8_say_85 rfl (lv_at hl 1 rfl) ?_
                  refine z_get F hK hZ (64) (hd _ (by omega)) rfl (by decide) rfl hin8 3 (by decide) mX8_say_7 rfl rfl dX8_say_86 ?_
                  refine z_iload_n F dX8_say_89 rfl (lv_at hl 2 rfl) ?_
                  refine z_zald F hK hZ (65) (hd _ (by omega)) rfl (by decide) (by omega) (by omega) dX8_say_90 ?_
                  have r_1 := hZ.2.1.1 (65) (x)
                  refine z_if_eq (tgt := 101) F (by omega) dX8_say_91 (by decide) (fun c_91 => ?_) (fun c_91 => ?_)
                  · skip
                    refine z_bipush F (by decide) dX8_say_101 ?_
                    exact z_iret F hr hlocks hZ (by rw [rSay, if_neg (fun q => q (by unfold okSay; omega)), if_pos (by omega)]) (by rw [mSay, if_neg (fun q => q (by unfold okSay; omega)), if_pos (by omega)]) dX8_say_103 (by omega) (by omega)
                  · skip
                    refine z_aload_n F dX8_say_94 rfl (lv_at hl 1 rfl) ?_
                    refine z_get F hK hZ (64) (hd _ (by omega)) rfl (by decide) rfl hin8 2 (by decide) mX8_say_40 rfl rfl dX8_say_95 ?_
                    have r_2 := hZ.2.1.1 (64) (2)
                    refine z_if_ne (tgt := 104) F (by omega) dX8_say_98 (by decide) (fun c_98 => ?_) (fun c_98 => ?_)
                    · skip
                      refine z_aload_n F dX8_say_104 rfl (lv_at hl 1 rfl) ?_
                      refine z_get F hK hZ (64) (hd _ (by omega)) rfl (by decide) rfl hin8 7 (by decide) mX8_say_44 rfl rfl dX8_say_105 ?_
                      have r_3 := hZ.2.1.1 (64) (7)
                      refine z_sipush F (by decide) dX8_say_108 ?_
                      refine z_icmp_ne (tgt := 117) F (by omega) (by omega) dX8_say_111 (by decide) (fun c_111 => ?_) (fun c_111 => ?_)
                      · skip
                        refine z_aload_n F dX8_say_117 rfl (lv_at hl 1 rfl) ?_
                        refine z_iload_n F dX8_say_118 rfl (lv_at hl 2 rfl) ?_
                        refine z_iload_n F dX8_say_119 rfl (lv_at hl 3 rfl) ?_
                        refine z_iload_n F dX8_say_120 rfl (lv_at hl 4 rfl) ?_
                        refine z_iload F dX8_say_121 (lv_at hl 5 rfl) ?_
                        refine z_iload F dX8_say_123 (lv_at hl 6 rfl) ?_
                        refine z_iload_n F dX8_say_125 rfl (lv_at hl 3 rfl) ?_
                        refine z_if_ne (tgt := 134) F (by omega) dX8_say_126 (by decide) (fun c_126 => ?_) (fun c_126 => ?_)
                        · skip
                          refine z_iconst F dX8_say_134 ?_
                          refine z_iconst F dX8_say_135 ?_
                          refine z_bxv hZ (va_runV (As := [.int (zI (x)), .int (zI (kd)), .int (zI (h)), .int (zI (r)), .int (zI (v)), .int (zI (-1)), .int (zI (0))]) (rest := []) F (k_X8_sends l w dom A hDA sz G hd x kd h r v (-1) 0 (by omega) (by omega) (by omega) (by omega) (by omega) (by omega) (by omega) (by omega)) (cwV 7 F.2.2.2.2 gX8_say_X8_sends rfl rfl rfl (by decide +kernel) ⟨Nat.le_of_ble_eq_true rfl, Nat.le_of_ble_eq_true rfl⟩) (z_preV hK hZ (64) (hd _ (by omega)) rfl (by decide) rfl _) rfl rfl hl.1 rfl (lv_room (Nat.le_of_ble_eq_true rfl)) dX8_say_136 ⟨Nat.le_of_ble_eq_true rfl, Nat.le_of_ble_eq_true rfl⟩) (fun H locs hZ => ?_)
                          refine z_aload_n F dX8_say_139 rfl (lv_at hl 1 rfl) ?_
                          refine z_get F hK hZ (64) (hd _ (by omega)) rfl (by decide) rfl hin8 7 (by decide) mX8_say_44 rfl rfl dX8_say_140 ?_
                          have r_4 := hZ.2.1.1 (64) (7)
                          refine z_topI (show (sendsM G x kd h r v (-1) 0) 64 7 = G 64 7 + 1 from by rw [sendsM_64, if_pos rfl, if_neg c_111]) ?_
                          refine z_iconst F dX8_say_143 ?_
                          refine z_isub F dX8_say_144 ?_
                          exact z_iret F hr hlocks hZ (by rw [rSay, if_neg (fun q => q (by unfold okSay; omega)), if_neg (by omega), if_neg c_111]; omega) (by rw [mSay, if_neg (fun q => q (by unfold okSay; omega)), if_neg (by omega), if_neg c_111]; first | (exfalso; omega) | (split <;> first | rfl | (exfalso; omega))) dX8_say_145 (by omega) (by omega)
                        · skip
                          refine z_iload F dX8_say_129 (lv_at hl 7 rfl) ?_
                          refine lv_goto (tgt := 135) F.1 F.2.1 dX8_say_131 (by decide) ?_
                          refine z_iconst F dX8_say_135 ?_
                          refine z_bxv hZ (va_runV (As := [.int (zI (x)), .int (zI (kd)), .int (zI (h)), .int (zI (r)), .int (zI (v)), .int (zI (vr)), .int (zI (0))]) (rest := []) F (k_X8_sends l w dom A hDA sz G hd x kd h r v vr 0 (by omega) (by omega) (by omega) (by omega) (by omega) (by omega) (by omega) (by omega)) (cwV 7 F.2.2.2.2 gX8_say_X8_sends rfl rfl rfl (by decide +kernel) ⟨Nat.le_of_ble_eq_true rfl, Nat.le_of_ble_eq_true rfl⟩) (z_preV hK hZ (64) (hd _ (by omega)) rfl (by decide) rfl _) rfl rfl hl.1 rfl (lv_room (Nat.le_of_ble_eq_true rfl)) dX8_say_136 ⟨Nat.le_of_ble_eq_true rfl, Nat.le_of_ble_eq_true rfl⟩) (fun H locs hZ => ?_)
                          refine z_aload_n F dX8_say_139 rfl (lv_at hl 1 rfl) ?_
                          refine z_get F hK hZ (64) (hd _ (by omega)) rfl (by decide) rfl hin8 7 (by decide) mX8_say_44 rfl rfl dX8_say_140 ?_
                          have r_5 := hZ.2.1.1 (64) (7)
                          refine z_topI (show (sendsM G x kd h r v vr 0) 64 7 = G 64 7 + 1 from by rw [sendsM_64, if_pos rfl, if_neg c_111]) ?_
                          refine z_iconst F dX8_say_143 ?_
                          refine z_isub F dX8_say_144 ?_
                          exact z_iret F hr hlocks hZ (by rw [rSay, if_neg (fun q => q (by unfold okSay; omega)), if_neg (by omega), if_neg c_111]; omega) (by rw [mSay, if_neg (fun q => q (by unfold okSay; omega)), if_neg (by omega), if_neg c_111]; first | (exfalso; omega) | (split <;> first | rfl | (exfalso; omega))) dX8_say_145 (by omega) (by omega)
                      · skip
                        refine z_bipush F (by decide) dX8_say_114 ?_
                        exact z_iret F hr hlocks hZ (by rw [rSay, if_neg (fun q => q (by unfold okSay; omega)), if_neg (by omega), if_pos c_111]) (by rw [mSay, if_neg (fun q => q (by unfold okSay; omega)), if_neg (by omega), if_pos c_111]) dX8_say_116 (by omega) (by omega)
                    · skip
                      refine z_bipush F (by decide) dX8_say_101 ?_
                      exact z_iret F hr hlocks hZ (by rw [rSay, if_neg (fun q => q (by unfold okSay; omega)), if_pos (by omega)]) (by rw [mSay, if_neg (fun q => q (by unfold okSay; omega)), if_pos (by omega)]) dX8_say_103 (by omega) (by omega)
                · skip
                  exfalso; omega
              · skip
                refine z_iload F dX8_say_60 (lv_at hl 6 rfl) ?_
                refine z_iconst F dX8_say_62 ?_
                refine z_bipush F (by decide) dX8_say_63 ?_
                refine z_bxi hZ (va_runS (As := [.int (zI (vr)), .int (zI (-1)), .int (zI (9))]) (rest := []) F (k_X8_in l w dom A hDA sz G vr (-1) 9 (by omega) (by omega) (by omega)) (va_cwS 3 F.2.2.2.2 gX8_say_X8_in rfl rfl rfl (by decide +kernel) ⟨Nat.le_of_ble_eq_true rfl, Nat.le_of_ble_eq_true rfl⟩) (z_preS hK hZ _) rfl rfl hl.1 rfl (lv_room (Nat.le_of_ble_eq_true rfl)) dX8_say_65 ⟨Nat.le_of_ble_eq_true rfl, Nat.le_of_ble_eq_true rfl⟩) (fun H locs hZ => ?_)
                refine z_ifB_eq (tgt := 75) F dX8_say_68 (by decide) (fun c_68 => ?_) (fun c_68 => ?_)
                · skip
                  refine z_iconst F dX8_say_75 ?_
                  refine z_istore (lv' := [(7, .int (zI (0))), (0, .ref (w.2.1 + (64))), (1, .int (zI (x))), (2, .int (zI (kd))), (3, .int (zI (h))), (4, .int (zI (r))), (5, .int (zI (v))), (6, .int (zI (vr)))]) F dX8_say_76 hl (by decide) rfl (fun ls hl => ?_)
                  refine z_iload F dX8_say_78 (lv_at hl 0 rfl) ?_
                  refine z_if_ne (tgt := 85) F (by omega) dX8_say_80 (by decide) (fun c_80 => ?_) (fun c_80 => ?_)
                  · skip
                    exfalso; omega
                  · skip
                    refine z_iconst F dX8_say_83 ?_
                    exact z_iret F hr hlocks hZ (by rw [rSay, if_pos (by unfold okSay; omega)]) (by rw [mSay, if_pos (by unfold okSay; omega)]) dX8_say_84 (by omega) (by omega)
                · skip
                  refine z_iconst F dX8_say_71 ?_
                  refine lv_goto (tgt := 76) F.1 F.2.1 dX8_say_72 (by decide) ?_
                  refine z_istore (lv' := [(7, .int (zI (1))), (0, .ref (w.2.1 + (64))), (1, .int (zI (x))), (2, .int (zI (kd))), (3, .int (zI (h))), (4, .int (zI (r))), (5, .int (zI (v))), (6, .int (zI (vr)))]) F dX8_say_76 hl (by decide) rfl (fun ls hl => ?_)
                  refine z_iload F dX8_say_78 (lv_at hl 0 rfl) ?_
                  refine z_if_ne (tgt := 85) F (by omega) dX8_say_80 (by decide) (fun c_80 => ?_) (fun c_80 => ?_)
                  · skip
                    refine z_aload_n F dX8_say_85 rfl (lv_at hl 1 rfl) ?_
                    refine z_get F hK hZ (64) (hd _ (by omega)) rfl (by decide) rfl hin8 3 (by decide) mX8_say_7 rfl rfl dX8_say_86 ?_
                    refine z_iload_n F dX8_say_89 rfl (lv_at hl 2 rfl) ?_
                    refine z_zald F hK hZ (65) (hd _ (by omega)) rfl (by decide) (by omega) (by omega) dX8_say_90 ?_
                    have r_6 := hZ.2.1.1 (65) (x)
                    refine z_if_eq (tgt := 101) F (by omega) dX8_say_91 (by decide) (fun c_91 => ?_) (fun c_91 => ?_)
                    · skip
                      refine z_bipush F (by decide) dX8_say_101 ?_
                      exact z_iret F hr hlocks hZ (by rw [rSay, if_neg (fun q => q (by unfold okSay; omega)), if_pos (by omega)]) (by rw [mSay, if_neg (fun q => q (by unfold okSay; omega)), if_pos (by omega)]) dX8_say_103 (by omega) (by omega)
                    · skip
                      refine z_aload_n F dX8_say_94 rfl (lv_at hl 1 rfl) ?_
                      refine z_get F hK hZ (64) (hd _ (by omega)) rfl (by decide) rfl hin8 2 (by decide) mX8_say_40 rfl rfl dX8_say_95 ?_
                      have r_7 := hZ.2.1.1 (64) (2)
                      refine z_if_ne (tgt := 104) F (by omega) dX8_say_98 (by decide) (fun c_98 => ?_) (fun c_98 => ?_)
                      · skip
                        refine z_aload_n F dX8_say_104 rfl (lv_at hl 1 rfl) ?_
                        refine z_get F hK hZ (64) (hd _ (by omega)) rfl (by decide) rfl hin8 7 (by decide) mX8_say_44 rfl rfl dX8_say_105 ?_
                        have r_8 := hZ.2.1.1 (64) (7)
                        refine z_sipush F (by decide) dX8_say_108 ?_
                        refine z_icmp_ne (tgt := 117) F (by omega) (by omega) dX8_say_111 (by decide) (fun c_111 => ?_) (fun c_111 => ?_)
                        · skip
                          refine z_aload_n F dX8_say_117 rfl (lv_at hl 1 rfl) ?_
                          refine z_iload_n F dX8_say_118 rfl (lv_at hl 2 rfl) ?_
                          refine z_iload_n F dX8_say_119 rfl (lv_at hl 3 rfl) ?_
                          refine z_iload_n F dX8_say_120 rfl (lv_at hl 4 rfl) ?_
                          refine z_iload F dX8_say_121 (lv_at hl 5 rfl) ?_
                          refine z_iload F dX8_say_123 (lv_at hl 6 rfl) ?_
                          refine z_iload_n F dX8_say_125 rfl (lv_at hl 3 rfl) ?_
                          refine z_if_ne (tgt := 134) F (by omega) dX8_say_126 (by decide) (fun c_126 => ?_) (fun c_126 => ?_)
                          · skip
                            refine z_iconst F dX8_say_134 ?_
                            refine z_iconst F dX8_say_135 ?_
                            refine z_bxv hZ (va_runV (As := [.int (zI (x)), .int (zI (kd)), .int (zI (h)), .int (zI (r)), .int (zI (v)), .int (zI (-1)), .int (zI (0))]) (rest := []) F (k_X8_sends l w dom A hDA sz G hd x kd h r v (-1) 0 (by omega) (by omega) (by omega) (by omega) (by omega) (by omega) (by omega) (by omega)) (cwV 7 F.2.2.2.2 gX8_say_X8_sends rfl rfl rfl (by decide +kernel) ⟨Nat.le_of_ble_eq_true rfl, Nat.le_of_ble_eq_true rfl⟩) (z_preV hK hZ (64) (hd _ (by omega)) rfl (by decide) rfl _) rfl rfl hl.1 rfl (lv_room (Nat.le_of_ble_eq_true rfl)) dX8_say_136 ⟨Nat.le_of_ble_eq_true rfl, Nat.le_of_ble_eq_true rfl⟩) (fun H locs hZ => ?_)
                            refine z_aload_n F dX8_say_139 rfl (lv_at hl 1 rfl) ?_
                            refine z_get F hK hZ (64) (hd _ (by omega)) rfl (by decide) rfl hin8 7 (by decide) mX8_say_44 rfl rfl dX8_say_140 ?_
                            have r_9 := hZ.2.1.1 (64) (7)
                            refine z_topI (show (sendsM G x kd h r v (-1) 0) 64 7 = G 64 7 + 1 from by rw [sendsM_64, if_pos rfl, if_neg c_111]) ?_
                            refine z_iconst F dX8_say_143 ?_
                            refine z_isub F dX8_say_144 ?_
                            exact z_iret F hr hlocks hZ (by rw [rSay, if_neg (fun q => q (by unfold okSay; omega)), if_neg (by omega), if_neg c_111]; omega) (by rw [mSay, if_neg (fun q => q (by unfold okSay; omega)), if_neg (by omega), if_neg c_111]; first | (exfalso; omega) | (split <;> first | rfl | (exfalso; omega))) dX8_say_145 (by omega) (by omega)
                          · skip
                            refine z_iload F dX8_say_129 (lv_at hl 7 rfl) ?_
                            refine lv_goto (tgt := 135) F.1 F.2.1 dX8_say_131 (by decide) ?_
                            refine z_iconst F dX8_say_135 ?_
                            refine z_bxv hZ (va_runV (As := [.int (zI (x)), .int (zI (kd)), .int (zI (h)), .int (zI (r)), .int (zI (v)), .int (zI (vr)), .int (zI (0))]) (rest := []) F (k_X8_sends l w dom A hDA sz G hd x kd h r v vr 0 (by omega) (by omega) (by omega) (by omega) (by omega) (by omega) (by omega) (by omega)) (cwV 7 F.2.2.2.2 gX8_say_X8_sends rfl rfl rfl (by decide +kernel) ⟨Nat.le_of_ble_eq_true rfl, Nat.le_of_ble_eq_true rfl⟩) (z_preV hK hZ (64) (hd _ (by omega)) rfl (by decide) rfl _) rfl rfl hl.1 rfl (lv_room (Nat.le_of_ble_eq_true rfl)) dX8_say_136 ⟨Nat.le_of_ble_eq_true rfl, Nat.le_of_ble_eq_true rfl⟩) (fun H locs hZ => ?_)
                            refine z_aload_n F dX8_say_139 rfl (lv_at hl 1 rfl) ?_
                            refine z_get F hK hZ (64) (hd _ (by omega)) rfl (by decide) rfl hin8 7 (by decide) mX8_say_44 rfl rfl dX8_say_140 ?_
                            have r_10 := hZ.2.1.1 (64) (7)
                            refine z_topI (show (sendsM G x kd h r v vr 0) 64 7 = G 64 7 + 1 from by rw [sendsM_64, if_pos rfl, if_neg c_111]) ?_
                            refine z_iconst F dX8_say_143 ?_
                            refine z_isub F dX8_say_144 ?_
                            exact z_iret F hr hlocks hZ (by rw [rSay, if_neg (fun q => q (by unfold okSay; omega)), if_neg (by omega), if_neg c_111]; omega) (by rw [mSay, if_neg (fun q => q (by unfold okSay; omega)), if_neg (by omega), if_neg c_111]; first | (exfalso; omega) | (split <;> first | rfl | (exfalso; omega))) dX8_say_145 (by omega) (by omega)
                        · skip
                          refine z_bipush F (by decide) dX8_say_114 ?_
                          exact z_iret F hr hlocks hZ (by rw [rSay, if_neg (fun q => q (by unfold okSay; omega)), if_neg (by omega), if_pos c_111]) (by rw [mSay, if_neg (fun q => q (by unfold okSay; omega)), if_neg (by omega), if_pos c_111]) dX8_say_116 (by omega) (by omega)
                      · skip
                        refine z_bipush F (by decide) dX8_say_101 ?_
                        exact z_iret F hr hlocks hZ (by rw [rSay, if_neg (fun q => q (by unfold okSay; omega)), if_pos (by omega)]) (by rw [mSay, if_neg (fun q => q (by unfold okSay; omega)), if_pos (by omega)]) dX8_say_103 (by omega) (by omega)
                  · skip
                    exfalso; omega
          · skip
            refine z_iconst F dX8_say_43 ?_
            refine lv_goto (tgt := 48) F.1 F.2.1 dX8_say_44 (by decide) ?_
            refine z_bipush F (by decide) dX8_say_48 ?_
            refine z_bxi hZ (va_runS (As := [.int (zI (v)), .int (zI (0)), .int (zI (99))]) (rest := []) F (k_X8_in l w dom A hDA sz G v 0 99 (by omega) (by omega) (by omega)) (va_cwS 3 F.2.2.2.2 gX8_say_X8_in rfl rfl rfl (by decide +kernel) ⟨Nat.le_of_ble_eq_true rfl, Nat.le_of_ble_eq_true rfl⟩) (z_preS hK hZ _) rfl rfl hl.1 rfl (lv_room (Nat.le_of_ble_eq_true rfl)) dX8_say_50 ⟨Nat.le_of_ble_eq_true rfl, Nat.le_of_ble_eq_true rfl⟩) (fun H locs hZ => ?_)
            refine z_ifB_eq (tgt := 75) F dX8_say_53 (by decide) (fun c_53 => ?_) (fun c_53 => ?_)
            · skip
              refine z_iconst F dX8_say_75 ?_
              refine z_istore (lv' := [(7, .int (zI (0))), (0, .ref (w.2.1 + (64))), (1, .int (zI (x))), (2, .int (zI (kd))), (3, .int (zI (h))), (4, .int (zI (r))), (5, .int (zI (v))), (6, .int (zI (vr)))]) F dX8_say_76 hl (by decide) rfl (fun ls hl => ?_)
              refine z_iload F dX8_say_78 (lv_at hl 0 rfl) ?_
              refine z_if_ne (tgt := 85) F (by omega) dX8_say_80 (by decide) (fun c_80 => ?_) (fun c_80 => ?_)
              · skip
                exfalso; omega
              · skip
                refine z_iconst F dX8_say_83 ?_
                exact z_iret F hr hlocks hZ (by rw [rSay, if_pos (by unfold okSay; omega)]) (by rw [mSay, if_pos (by unfold okSay; omega)]) dX8_say_84 (by omega) (by omega)
            · skip
              refine z_iload_n F dX8_say_56 rfl (lv_at hl 2 rfl) ?_
              refine z_if_gt (tgt := 71) F (by omega) dX8_say_57 (by decide) (fun c_57 => ?_) (fun c_57 => ?_)
              · skip
                refine z_iconst F dX8_say_71 ?_
                refine lv_goto (tgt := 76) F.1 F.2.1 dX8_say_72 (by decide) ?_
                refine z_istore (lv' := [(7, .int (zI (1))), (0, .ref (w.2.1 + (64))), (1, .int (zI (x))), (2, .int (zI (kd))), (3, .int (zI (h))), (4, .int (zI (r))), (5, .int (zI (v))), (6, .int (zI (vr)))]) F dX8_say_76 hl (by decide) rfl (fun ls hl => ?_)
                refine z_iload F dX8_say_78 (lv_at hl 0 rfl) ?_
                refine z_if_ne (tgt := 85) F (by omega) dX8_say_80 (by decide) (fun c_80 => ?_) (fun c_80 => ?_)
                · skip
                  refine z_aload_n F dX8_say_85 rfl (lv_at hl 1 rfl) ?_
                  refine z_get F hK hZ (64) (hd _ (by omega)) rfl (by decide) rfl hin8 3 (by decide) mX8_say_7 rfl rfl dX8_say_86 ?_
                  refine z_iload_n F dX8_say_89 rfl (lv_at hl 2 rfl) ?_
                  refine z_zald F hK hZ (65) (hd _ (by omega)) rfl (by decide) (by omega) (by omega) dX8_say_90 ?_
                  have r_11 := hZ.2.1.1 (65) (x)
                  refine z_if_eq (tgt := 101) F (by omega) dX8_say_91 (by decide) (fun c_91 => ?_) (fun c_91 => ?_)
                  · skip
                    refine z_bipush F (by decide) dX8_say_101 ?_
                    exact z_iret F hr hlocks hZ (by rw [rSay, if_neg (fun q => q (by unfold okSay; omega)), if_pos (by omega)]) (by rw [mSay, if_neg (fun q => q (by unfold okSay; omega)), if_pos (by omega)]) dX8_say_103 (by omega) (by omega)
                  · skip
                    refine z_aload_n F dX8_say_94 rfl (lv_at hl 1 rfl) ?_
                    refine z_get F hK hZ (64) (hd _ (by omega)) rfl (by decide) rfl hin8 2 (by decide) mX8_say_40 rfl rfl dX8_say_95 ?_
                    have r_12 := hZ.2.1.1 (64) (2)
                    refine z_if_ne (tgt := 104) F (by omega) dX8_say_98 (by decide) (fun c_98 => ?_) (fun c_98 => ?_)
                    · skip
                      refine z_aload_n F dX8_say_104 rfl (lv_at hl 1 rfl) ?_
                      refine z_get F hK hZ (64) (hd _ (by omega)) rfl (by decide) rfl hin8 7 (by decide) mX8_say_44 rfl rfl dX8_say_105 ?_
                      have r_13 := hZ.2.1.1 (64) (7)
                      refine z_sipush F (by decide) dX8_say_108 ?_
                      refine z_icmp_ne (tgt := 117) F (by omega) (by omega) dX8_say_111 (by decide) (fun c_111 => ?_) (fun c_111 => ?_)
                      · skip
                        refine z_aload_n F dX8_say_117 rfl (lv_at hl 1 rfl) ?_
                        refine z_iload_n F dX8_say_118 rfl (lv_at hl 2 rfl) ?_
                        refine z_iload_n F dX8_say_119 rfl (lv_at hl 3 rfl) ?_
                        refine z_iload_n F dX8_say_120 rfl (lv_at hl 4 rfl) ?_
                        refine z_iload F dX8_say_121 (lv_at hl 5 rfl) ?_
                        refine z_iload F dX8_say_123 (lv_at hl 6 rfl) ?_
                        refine z_iload_n F dX8_say_125 rfl (lv_at hl 3 rfl) ?_
                        refine z_if_ne (tgt := 134) F (by omega) dX8_say_126 (by decide) (fun c_126 => ?_) (fun c_126 => ?_)
                        · skip
                          refine z_iconst F dX8_say_134 ?_
                          refine z_iconst F dX8_say_135 ?_
                          refine z_bxv hZ (va_runV (As := [.int (zI (x)), .int (zI (kd)), .int (zI (h)), .int (zI (r)), .int (zI (v)), .int (zI (-1)), .int (zI (0))]) (rest := []) F (k_X8_sends l w dom A hDA sz G hd x kd h r v (-1) 0 (by omega) (by omega) (by omega) (by omega) (by omega) (by omega) (by omega) (by omega)) (cwV 7 F.2.2.2.2 gX8_say_X8_sends rfl rfl rfl (by decide +kernel) ⟨Nat.le_of_ble_eq_true rfl, Nat.le_of_ble_eq_true rfl⟩) (z_preV hK hZ (64) (hd _ (by omega)) rfl (by decide) rfl _) rfl rfl hl.1 rfl (lv_room (Nat.le_of_ble_eq_true rfl)) dX8_say_136 ⟨Nat.le_of_ble_eq_true rfl, Nat.le_of_ble_eq_true rfl⟩) (fun H locs hZ => ?_)
                          refine z_aload_n F dX8_say_139 rfl (lv_at hl 1 rfl) ?_
                          refine z_get F hK hZ (64) (hd _ (by omega)) rfl (by decide) rfl hin8 7 (by decide) mX8_say_44 rfl rfl dX8_say_140 ?_
                          have r_14 := hZ.2.1.1 (64) (7)
                          refine z_topI (show (sendsM G x kd h r v (-1) 0) 64 7 = G 64 7 + 1 from by rw [sendsM_64, if_pos rfl, if_neg c_111]) ?_
                          refine z_iconst F dX8_say_143 ?_
                          refine z_isub F dX8_say_144 ?_
                          exact z_iret F hr hlocks hZ (by rw [rSay, if_neg (fun q => q (by unfold okSay; omega)), if_neg (by omega), if_neg c_111]; omega) (by rw [mSay, if_neg (fun q => q (by unfold okSay; omega)), if_neg (by omega), if_neg c_111]; first | (exfalso; omega) | (split <;> first | rfl | (exfalso; omega))) dX8_say_145 (by omega) (by omega)
                        · skip
                          refine z_iload F dX8_say_129 (lv_at hl 7 rfl) ?_
                          refine lv_goto (tgt := 135) F.1 F.2.1 dX8_say_131 (by decide) ?_
                          refine z_iconst F dX8_say_135 ?_
                          refine z_bxv hZ (va_runV (As := [.int (zI (x)), .int (zI (kd)), .int (zI (h)), .int (zI (r)), .int (zI (v)), .int (zI (vr)), .int (zI (0))]) (rest := []) F (k_X8_sends l w dom A hDA sz G hd x kd h r v vr 0 (by omega) (by omega) (by omega) (by omega) (by omega) (by omega) (by omega) (by omega)) (cwV 7 F.2.2.2.2 gX8_say_X8_sends rfl rfl rfl (by decide +kernel) ⟨Nat.le_of_ble_eq_true rfl, Nat.le_of_ble_eq_true rfl⟩) (z_preV hK hZ (64) (hd _ (by omega)) rfl (by decide) rfl _) rfl rfl hl.1 rfl (lv_room (Nat.le_of_ble_eq_true rfl)) dX8_say_136 ⟨Nat.le_of_ble_eq_true rfl, Nat.le_of_ble_eq_true rfl⟩) (fun H locs hZ => ?_)
                          refine z_aload_n F dX8_say_139 rfl (lv_at hl 1 rfl) ?_
                          refine z_get F hK hZ (64) (hd _ (by omega)) rfl (by decide) rfl hin8 7 (by decide) mX8_say_44 rfl rfl dX8_say_140 ?_
                          have r_15 := hZ.2.1.1 (64) (7)
                          refine z_topI (show (sendsM G x kd h r v vr 0) 64 7 = G 64 7 + 1 from by rw [sendsM_64, if_pos rfl, if_neg c_111]) ?_
                          refine z_iconst F dX8_say_143 ?_
                          refine z_isub F dX8_say_144 ?_
                          exact z_iret F hr hlocks hZ (by rw [rSay, if_neg (fun q => q (by unfold okSay; omega)), if_neg (by omega), if_neg c_111]; omega) (by rw [mSay, if_neg (fun q => q (by unfold okSay; omega)), if_neg (by omega), if_neg c_111]; first | (exfalso; omega) | (split <;> first | rfl | (exfalso; omega))) dX8_say_145 (by omega) (by omega)
                      · skip
                        refine z_bipush F (by decide) dX8_say_114 ?_
                        exact z_iret F hr hlocks hZ (by rw [rSay, if_neg (fun q => q (by unfold okSay; omega)), if_neg (by omega), if_pos c_111]) (by rw [mSay, if_neg (fun q => q (by unfold okSay; omega)), if_neg (by omega), if_pos c_111]) dX8_say_116 (by omega) (by omega)
                    · skip
                      refine z_bipush F (by decide) dX8_say_101 ?_
                      exact z_iret F hr hlocks hZ (by rw [rSay, if_neg (fun q => q (by unfold okSay; omega)), if_pos (by omega)]) (by rw [mSay, if_neg (fun q => q (by unfold okSay; omega)), if_pos (by omega)]) dX8_say_103 (by omega) (by omega)
                · skip
                  exfalso; omega
              · skip
                refine z_iload F dX8_say_60 (lv_at hl 6 rfl) ?_
                refine z_iconst F dX8_say_62 ?_
                refine z_bipush F (by decide) dX8_say_63 ?_
                refine z_bxi hZ (va_runS (As := [.int (zI (vr)), .int (zI (-1)), .int (zI (9))]) (rest := []) F (k_X8_in l w dom A hDA sz G vr (-1) 9 (by omega) (by omega) (by omega)) (va_cwS 3 F.2.2.2.2 gX8_say_X8_in rfl rfl rfl (by decide +kernel) ⟨Nat.le_of_ble_eq_true rfl, Nat.le_of_ble_eq_true rfl⟩) (z_preS hK hZ _) rfl rfl hl.1 rfl (lv_room (Nat.le_of_ble_eq_true rfl)) dX8_say_65 ⟨Nat.le_of_ble_eq_true rfl, Nat.le_of_ble_eq_true rfl⟩) (fun H locs hZ => ?_)
                refine z_ifB_eq (tgt := 75) F dX8_say_68 (by decide) (fun c_68 => ?_) (fun c_68 => ?_)
                · skip
                  refine z_iconst F dX8_say_75 ?_
                  refine z_istore (lv' := [(7, .int (zI (0))), (0, .ref (w.2.1 + (64))), (1, .int (zI (x))), (2, .int (zI (kd))), (3, .int (zI (h))), (4, .int (zI (r))), (5, .int (zI (v))), (6, .int (zI (vr)))]) F dX8_say_76 hl (by decide) rfl (fun ls hl => ?_)
                  refine z_iload F dX8_say_78 (lv_at hl 0 rfl) ?_
                  refine z_if_ne (tgt := 85) F (by omega) dX8_say_80 (by decide) (fun c_80 => ?_) (fun c_80 => ?_)
                  · skip
                    exfalso; omega
                  · skip
                    refine z_iconst F dX8_say_83 ?_
                    exact z_iret F hr hlocks hZ (by rw [rSay, if_pos (by unfold okSay; omega)]) (by rw [mSay, if_pos (by unfold okSay; omega)]) dX8_say_84 (by omega) (by omega)
                · skip
                  refine z_iconst F dX8_say_71 ?_
                  refine lv_goto (tgt := 76) F.1 F.2.1 dX8_say_72 (by decide) ?_
                  refine z_istore (lv' := [(7, .int (zI (1))), (0, .ref (w.2.1 + (64))), (1, .int (zI (x))), (2, .int (zI (kd))), (3, .int (zI (h))), (4, .int (zI (r))), (5, .int (zI (v))), (6, .int (zI (vr)))]) F dX8_say_76 hl (by decide) rfl (fun ls hl => ?_)
                  refine z_iload F dX8_say_78 (lv_at hl 0 rfl) ?_
                  refine z_if_ne (tgt := 85) F (by omega) dX8_say_80 (by decide) (fun c_80 => ?_) (fun c_80 => ?_)
                  · skip
                    refine z_aload_n F dX8_say_85 rfl (lv_at hl 1 rfl) ?_
                    refine z_get F hK hZ (64) (hd _ (by omega)) rfl (by decide) rfl hin8 3 (by decide) mX8_say_7 rfl rfl dX8_say_86 ?_
                    refine z_iload_n F dX8_say_89 rfl (lv_at hl 2 rfl) ?_
                    refine z_zald F hK hZ (65) (hd _ (by omega)) rfl (by decide) (by omega) (by omega) dX8_say_90 ?_
                    have r_16 := hZ.2.1.1 (65) (x)
                    refine z_if_eq (tgt := 101) F (by omega) dX8_say_91 (by decide) (fun c_91 => ?_) (fun c_91 => ?_)
                    · skip
                      refine z_bipush F (by decide) dX8_say_101 ?_
                      exact z_iret F hr hlocks hZ (by rw [rSay, if_neg (fun q => q (by unfold okSay; omega)), if_pos (by omega)]) (by rw [mSay, if_neg (fun q => q (by unfold okSay; omega)), if_pos (by omega)]) dX8_say_103 (by omega) (by omega)
                    · skip
                      refine z_aload_n F dX8_say_94 rfl (lv_at hl 1 rfl) ?_
                      refine z_get F hK hZ (64) (hd _ (by omega)) rfl (by decide) rfl hin8 2 (by decide) mX8_say_40 rfl rfl dX8_say_95 ?_
                      have r_17 := hZ.2.1.1 (64) (2)
                      refine z_if_ne (tgt := 104) F (by omega) dX8_say_98 (by decide) (fun c_98 => ?_) (fun c_98 => ?_)
                      · skip
                        refine z_aload_n F dX8_say_104 rfl (lv_at hl 1 rfl) ?_
                        refine z_get F hK hZ (64) (hd _ (by omega)) rfl (by decide) rfl hin8 7 (by decide) mX8_say_44 rfl rfl dX8_say_105 ?_
                        have r_18 := hZ.2.1.1 (64) (7)
                        refine z_sipush F (by decide) dX8_say_108 ?_
                        refine z_icmp_ne (tgt := 117) F (by omega) (by omega) dX8_say_111 (by decide) (fun c_111 => ?_) (fun c_111 => ?_)
                        · skip
                          refine z_aload_n F dX8_say_117 rfl (lv_at hl 1 rfl) ?_
                          refine z_iload_n F dX8_say_118 rfl (lv_at hl 2 rfl) ?_
                          refine z_iload_n F dX8_say_119 rfl (lv_at hl 3 rfl) ?_
                          refine z_iload_n F dX8_say_120 rfl (lv_at hl 4 rfl) ?_
                          refine z_iload F dX8_say_121 (lv_at hl 5 rfl) ?_
                          refine z_iload F dX8_say_123 (lv_at hl 6 rfl) ?_
                          refine z_iload_n F dX8_say_125 rfl (lv_at hl 3 rfl) ?_
                          refine z_if_ne (tgt := 134) F (by omega) dX8_say_126 (by decide) (fun c_126 => ?_) (fun c_126 => ?_)
                          · skip
                            refine z_iconst F dX8_say_134 ?_
                            refine z_iconst F dX8_say_135 ?_
                            refine z_bxv hZ (va_runV (As := [.int (zI (x)), .int (zI (kd)), .int (zI (h)), .int (zI (r)), .int (zI (v)), .int (zI (-1)), .int (zI (0))]) (rest := []) F (k_X8_sends l w dom A hDA sz G hd x kd h r v (-1) 0 (by omega) (by omega) (by omega) (by omega) (by omega) (by omega) (by omega) (by omega)) (cwV 7 F.2.2.2.2 gX8_say_X8_sends rfl rfl rfl (by decide +kernel) ⟨Nat.le_of_ble_eq_true rfl, Nat.le_of_ble_eq_true rfl⟩) (z_preV hK hZ (64) (hd _ (by omega)) rfl (by decide) rfl _) rfl rfl hl.1 rfl (lv_room (Nat.le_of_ble_eq_true rfl)) dX8_say_136 ⟨Nat.le_of_ble_eq_true rfl, Nat.le_of_ble_eq_true rfl⟩) (fun H locs hZ => ?_)
                            refine z_aload_n F dX8_say_139 rfl (lv_at hl 1 rfl) ?_
                            refine z_get F hK hZ (64) (hd _ (by omega)) rfl (by decide) rfl hin8 7 (by decide) mX8_say_44 rfl rfl dX8_say_140 ?_
                            have r_19 := hZ.2.1.1 (64) (7)
                            refine z_topI (show (sendsM G x kd h r v (-1) 0) 64 7 = G 64 7 + 1 from by rw [sendsM_64, if_pos rfl, if_neg c_111]) ?_
                            refine z_iconst F dX8_say_143 ?_
                            refine z_isub F dX8_say_144 ?_
                            exact z_iret F hr hlocks hZ (by rw [rSay, if_neg (fun q => q (by unfold okSay; omega)), if_neg (by omega), if_neg c_111]; omega) (by rw [mSay, if_neg (fun q => q (by unfold okSay; omega)), if_neg (by omega), if_neg c_111]; first | (exfalso; omega) | (split <;> first | rfl | (exfalso; omega))) dX8_say_145 (by omega) (by omega)
                          · skip
                            refine z_iload F dX8_say_129 (lv_at hl 7 rfl) ?_
                            refine lv_goto (tgt := 135) F.1 F.2.1 dX8_say_131 (by decide) ?_
                            refine z_iconst F dX8_say_135 ?_
                            refine z_bxv hZ (va_runV (As := [.int (zI (x)), .int (zI (kd)), .int (zI (h)), .int (zI (r)), .int (zI (v)), .int (zI (vr)), .int (zI (0))]) (rest := []) F (k_X8_sends l w dom A hDA sz G hd x kd h r v vr 0 (by omega) (by omega) (by omega) (by omega) (by omega) (by omega) (by omega) (by omega)) (cwV 7 F.2.2.2.2 gX8_say_X8_sends rfl rfl rfl (by decide +kernel) ⟨Nat.le_of_ble_eq_true rfl, Nat.le_of_ble_eq_true rfl⟩) (z_preV hK hZ (64) (hd _ (by omega)) rfl (by decide) rfl _) rfl rfl hl.1 rfl (lv_room (Nat.le_of_ble_eq_true rfl)) dX8_say_136 ⟨Nat.le_of_ble_eq_true rfl, Nat.le_of_ble_eq_true rfl⟩) (fun H locs hZ => ?_)
                            refine z_aload_n F dX8_say_139 rfl (lv_at hl 1 rfl) ?_
                            refine z_get F hK hZ (64) (hd _ (by omega)) rfl (by decide) rfl hin8 7 (by decide) mX8_say_44 rfl rfl dX8_say_140 ?_
                            have r_20 := hZ.2.1.1 (64) (7)
                            refine z_topI (show (sendsM G x kd h r v vr 0) 64 7 = G 64 7 + 1 from by rw [sendsM_64, if_pos rfl, if_neg c_111]) ?_
                            refine z_iconst F dX8_say_143 ?_
                            refine z_isub F dX8_say_144 ?_
                            exact z_iret F hr hlocks hZ (by rw [rSay, if_neg (fun q => q (by unfold okSay; omega)), if_neg (by omega), if_neg c_111]; omega) (by rw [mSay, if_neg (fun q => q (by unfold okSay; omega)), if_neg (by omega), if_neg c_111]; first | (exfalso; omega) | (split <;> first | rfl | (exfalso; omega))) dX8_say_145 (by omega) (by omega)
                        · skip
                          refine z_bipush F (by decide) dX8_say_114 ?_
                          exact z_iret F hr hlocks hZ (by rw [rSay, if_neg (fun q => q (by unfold okSay; omega)), if_neg (by omega), if_pos c_111]) (by rw [mSay, if_neg (fun q => q (by unfold okSay; omega)), if_neg (by omega), if_pos c_111]) dX8_say_116 (by omega) (by omega)
                      · skip
                        refine z_bipush F (by decide) dX8_say_101 ?_
                        exact z_iret F hr hlocks hZ (by rw [rSay, if_neg (fun q => q (by unfold okSay; omega)), if_pos (by omega)]) (by rw [mSay, if_neg (fun q => q (by unfold okSay; omega)), if_pos (by omega)]) dX8_say_103 (by omega) (by omega)
                  · skip
                    exfalso; omega

theorem mX8_come_7 : Cond.fieldLink RX8 7 "LockedChainModel" "isFalse" "[Z" ∈ wsX8_come := by decide +kernel
theorem mX8_come_26 : Cond.fieldLink RX8 26 "LockedChainModel" "came" "[Z" ∈ wsX8_come := by decide +kernel
theorem mX8_come_44 : Cond.fieldLink RX8 44 "LockedChainModel" "letters" "I" ∈ wsX8_come := by decide +kernel
set_option maxHeartbeats 4000000 in
set_option maxRecDepth 100000 in
theorem k_X8_come (l : Launch) (w : zW) (dom : Nat → Prop) (A : Nat → Prop) (hDA : ∀ i, dom i → A (w.2.1 + i)) (sz : Nat) (G : zM) (hd : ∀ i, 64 ≤ i ∧ i < 71 → dom i) (hI : Inv G) (y x : Int) (hy : -2147483648 ≤ y ∧ y < 2147483648) (hx : -2147483648 ≤ x ∧ x < 2147483648) : Met l yX8_come wsX8_come { frames := 7, cells := 0, slots := 0, locals := 158 } (zPre w dom sz G [.ref (w.2.1 + (64)), .int (zI (y)), .int (zI (x))]) (zQi w dom sz (rCome G y x) (fun C => C = mCome G y x) A) (0) (0) A := by
  refine Met.ofW (cc := cX8_come) (maxL := 3) (ret := (some .int)) (by decide) rfl ?_
  intro p e s m args below meth c s₁ B hml hv
  obtain ⟨rfl, hsz, hP, hK⟩ := hv
  have F : CallFix p m c cX8_come 3 s _ wsX8_come RX8 := ⟨B.exec, B.bytes, hml, findClass_of_methodNamed B.named, atoms_spec (ws := wsX8_come) B.pre⟩
  have hr := B.returns
  have hlocks := B.notSynchronized
  have hZ : Zs w dom A s.heap sz G s.heap [] := ⟨hsz, hP, va_S.rf⟩
  have hl := lv_entry ([.ref (w.2.1 + (64)), .int (zI (y)), .int (zI (x))]) (n := 3) (Nat.le_of_ble_eq_true rfl)
  rw [lg_entry_eq]
  generalize (lg_sl ([.ref (w.2.1 + (64)), .int (zI (y)), .int (zI (x))]) ++ List.replicate (3 - (lg_sl ([.ref (w.2.1 + (64)), .int (zI (y)), .int (zI (x))])).length) Slot.unset).toArray = ls at hl ⊢
  have hl : lv_has ls 3 [(0, .ref (w.2.1 + (64))), (1, .int (zI (y))), (2, .int (zI (x)))] := hl
  have hin8 : ∀ v ∈ u_ws RX8 TX8 10, v ∈ wsX8_come := by decide +kernel
  have hn := hI.1
  have hL := hI.2.2.2.1
  refine z_iload_n F dX8_come_0 rfl (lv_at hl 1 rfl) ?_
  refine z_iconst F dX8_come_1 ?_
  refine z_aload_n F dX8_come_2 rfl (lv_at hl 0 rfl) ?_
  refine z_get F hK hZ (64) (hd _ (by omega)) rfl (by decide) rfl hin8 7 (by decide) mX8_come_44 rfl rfl dX8_come_3 ?_
  have r_1 := hZ.2.1.1 (64) (7)
  refine z_iconst F dX8_come_6 ?_
  refine z_isub F dX8_come_7 ?_
  refine z_bxi hZ (va_runS (As := [.int (zI (y)), .int (zI (0)), .int (zI ((G 64 7) - 1))]) (rest := []) F (k_X8_in l w dom A hDA sz G y 0 ((G 64 7) - 1) (by omega) (by omega) (by omega)) (va_cwS 3 F.2.2.2.2 gX8_come_X8_in rfl rfl rfl (by decide +kernel) ⟨Nat.le_of_ble_eq_true rfl, Nat.le_of_ble_eq_true rfl⟩) (z_preS hK hZ _) rfl rfl hl.1 rfl (lv_room (Nat.le_of_ble_eq_true rfl)) dX8_come_8 ⟨Nat.le_of_ble_eq_true rfl, Nat.le_of_ble_eq_true rfl⟩) (fun H locs hZ => ?_)
  refine z_ifB_eq (tgt := 22) F dX8_come_11 (by decide) (fun c_11 => ?_) (fun c_11 => ?_)
  · skip
    refine z_iconst F dX8_come_22 ?_
    exact z_iret F hr hlocks hZ (by rw [rCome, if_pos (by omega)]) (by rw [mCome, if_pos (by omega)]) dX8_come_23 (by omega) (by omega)
  · skip
    refine z_aload_n F dX8_come_14 rfl (lv_at hl 0 rfl) ?_
    refine z_iload_n F dX8_come_15 rfl (lv_at hl 2 rfl) ?_
    refine z_bxi hZ (va_runV (As := [.int (zI (x))]) (rest := []) F (k_X8_isSeat l w dom A hDA sz G hd (by omega) x (by omega)) (cwV 1 F.2.2.2.2 gX8_come_X8_isSeat rfl rfl rfl (by decide +kernel) ⟨Nat.le_of_ble_eq_true rfl, Nat.le_of_ble_eq_true rfl⟩) (z_preV hK hZ (64) (hd _ (by omega)) rfl (by decide) rfl _) rfl rfl hl.1 rfl (lv_room (Nat.le_of_ble_eq_true rfl)) dX8_come_16 ⟨Nat.le_of_ble_eq_true rfl, Nat.le_of_ble_eq_true rfl⟩) (fun H locs hZ => ?_)
    refine z_ifB_ne (tgt := 24) F dX8_come_19 (by decide) (fun c_19 => ?_) (fun c_19 => ?_)
    · skip
      refine z_aload_n F dX8_come_24 rfl (lv_at hl 0 rfl) ?_
      refine z_get F hK hZ (64) (hd _ (by omega)) rfl (by decide) rfl hin8 9 (by decide) mX8_come_26 rfl rfl dX8_come_25 ?_
      refine z_bipush F (by decide) dX8_come_28 ?_
      refine z_iload_n F dX8_come_30 rfl (lv_at hl 1 rfl) ?_
      refine z_imul F dX8_come_31 ?_
      refine z_iload_n F dX8_come_32 rfl (lv_at hl 2 rfl) ?_
      refine z_iadd F dX8_come_33 ?_
      refine z_zald F hK hZ (70) (hd _ (by omega)) rfl (by decide) (by omega) (by omega) dX8_come_34 ?_
      have r_2 := hZ.2.1.1 (70) (7 * y + x)
      refine z_if_ne (tgt := 47) F (by omega) dX8_come_35 (by decide) (fun c_35 => ?_) (fun c_35 => ?_)
      · skip
        refine z_bipush F (by decide) dX8_come_47 ?_
        exact z_iret F hr hlocks hZ (by rw [rCome, if_neg (by omega), if_pos (by omega)]) (by rw [mCome, if_neg (by omega), if_pos (by omega)]) dX8_come_49 (by omega) (by omega)
      · skip
        refine z_aload_n F dX8_come_38 rfl (lv_at hl 0 rfl) ?_
        refine z_get F hK hZ (64) (hd _ (by omega)) rfl (by decide) rfl hin8 3 (by decide) mX8_come_7 rfl rfl dX8_come_39 ?_
        refine z_iload_n F dX8_come_42 rfl (lv_at hl 2 rfl) ?_
        refine z_zald F hK hZ (65) (hd _ (by omega)) rfl (by decide) (by omega) (by omega) dX8_come_43 ?_
        have r_3 := hZ.2.1.1 (65) (x)
        refine z_if_eq (tgt := 50) F (by omega) dX8_come_44 (by decide) (fun c_44 => ?_) (fun c_44 => ?_)
        · skip
          refine z_aload_n F dX8_come_50 rfl (lv_at hl 0 rfl) ?_
          refine z_iload_n F dX8_come_51 rfl (lv_at hl 1 rfl) ?_
          refine z_iload_n F dX8_come_52 rfl (lv_at hl 2 rfl) ?_
          refine z_bxv hZ (va_runV (As := [.int (zI (y)), .int (zI (x))]) (rest := []) F (k_X8_comes l w dom A hDA sz G hd hI y x (by omega) (by omega)) (cwV 2 F.2.2.2.2 gX8_come_X8_comes rfl rfl rfl (by decide +kernel) ⟨Nat.le_of_ble_eq_true rfl, Nat.le_of_ble_eq_true rfl⟩) (z_preV hK hZ (64) (hd _ (by omega)) rfl (by decide) rfl _) rfl rfl hl.1 rfl (lv_room (Nat.le_of_ble_eq_true rfl)) dX8_come_53 ⟨Nat.le_of_ble_eq_true rfl, Nat.le_of_ble_eq_true rfl⟩) (fun H locs hZ => ?_)
          refine z_aload_n F dX8_come_56 rfl (lv_at hl 0 rfl) ?_
          refine z_get F hK hZ (64) (hd _ (by omega)) rfl (by decide) rfl hin8 7 (by decide) mX8_come_44 rfl rfl dX8_come_57 ?_
          have r_4 := hZ.2.1.1 (64) (7)
          exact z_iret F hr hlocks hZ (by rw [rCome, if_neg (by omega), if_neg (by omega)]) (by rw [mCome, if_neg (by omega), if_neg (by omega)]) dX8_come_60 (by omega) (by omega)
        · skip
          refine z_bipush F (by decide) dX8_come_47 ?_
          exact z_iret F hr hlocks hZ (by rw [rCome, if_neg (by omega), if_pos (by omega)]) (by rw [mCome, if_neg (by omega), if_pos (by omega)]) dX8_come_49 (by omega) (by omega)
    · skip
      refine z_iconst F dX8_come_22 ?_
      exact z_iret F hr hlocks hZ (by rw [rCome, if_pos (by omega)]) (by rw [mCome, if_pos (by omega)]) dX8_come_23 (by omega) (by omega)

theorem mX8_end_44 : Cond.fieldLink RX8 44 "LockedChainModel" "letters" "I" ∈ wsX8_end := by decide +kernel
set_option maxHeartbeats 4000000 in
set_option maxRecDepth 100000 in
theorem k_X8_end (l : Launch) (w : zW) (dom : Nat → Prop) (A : Nat → Prop) (hDA : ∀ i, dom i → A (w.2.1 + i)) (sz : Nat) (G : zM) (hd : ∀ i, 64 ≤ i ∧ i < 71 → dom i) (hI : Inv G) (x k : Int) (hx : -2147483648 ≤ x ∧ x < 2147483648) (hk : -2147483648 ≤ k ∧ k < 2147483648) : Met l yX8_end wsX8_end { frames := 7, cells := 0, slots := 0, locals := 158 } (zPre w dom sz G [.ref (w.2.1 + (64)), .int (zI (x)), .int (zI (k))]) (zQi w dom sz (rEnd G x k) (fun C => C = mEnd G x k) A) (0) (0) A := by
  refine Met.ofW (cc := cX8_end) (maxL := 3) (ret := (some .int)) (by decide) rfl ?_
  intro p e s m args below meth c s₁ B hml hv
  obtain ⟨rfl, hsz, hP, hK⟩ := hv
  have F : CallFix p m c cX8_end 3 s _ wsX8_end RX8 := ⟨B.exec, B.bytes, hml, findClass_of_methodNamed B.named, atoms_spec (ws := wsX8_end) B.pre⟩
  have hr := B.returns
  have hlocks := B.notSynchronized
  have hZ : Zs w dom A s.heap sz G s.heap [] := ⟨hsz, hP, va_S.rf⟩
  have hl := lv_entry ([.ref (w.2.1 + (64)), .int (zI (x)), .int (zI (k))]) (n := 3) (Nat.le_of_ble_eq_true rfl)
  rw [lg_entry_eq]
  generalize (lg_sl ([.ref (w.2.1 + (64)), .int (zI (x)), .int (zI (k))]) ++ List.replicate (3 - (lg_sl ([.ref (w.2.1 + (64)), .int (zI (x)), .int (zI (k))])).length) Slot.unset).toArray = ls at hl ⊢
  have hl : lv_has ls 3 [(0, .ref (w.2.1 + (64))), (1, .int (zI (x))), (2, .int (zI (k)))] := hl
  have hin8 : ∀ v ∈ u_ws RX8 TX8 10, v ∈ wsX8_end := by decide +kernel
  have hn := hI.1
  have hL := hI.2.2.2.1
  refine z_aload_n F dX8_end_0 rfl (lv_at hl 0 rfl) ?_
  refine z_iload_n F dX8_end_1 rfl (lv_at hl 1 rfl) ?_
  refine z_bxi hZ (va_runV (As := [.int (zI (x))]) (rest := []) F (k_X8_isSeat l w dom A hDA sz G hd (by omega) x (by omega)) (cwV 1 F.2.2.2.2 gX8_end_X8_isSeat rfl rfl rfl (by decide +kernel) ⟨Nat.le_of_ble_eq_true rfl, Nat.le_of_ble_eq_true rfl⟩) (z_preV hK hZ (64) (hd _ (by omega)) rfl (by decide) rfl _) rfl rfl hl.1 rfl (lv_room (Nat.le_of_ble_eq_true rfl)) dX8_end_2 ⟨Nat.le_of_ble_eq_true rfl, Nat.le_of_ble_eq_true rfl⟩) (fun H locs hZ => ?_)
  refine z_ifB_eq (tgt := 17) F dX8_end_5 (by decide) (fun c_5 => ?_) (fun c_5 => ?_)
  · skip
    refine z_iconst F dX8_end_17 ?_
    exact z_iret F hr hlocks hZ (by rw [rEnd, if_pos (by omega)]) (by rw [mEnd, if_pos (by omega)]) dX8_end_18 (by omega) (by omega)
  · skip
    refine z_iload_n F dX8_end_8 rfl (lv_at hl 2 rfl) ?_
    refine z_iconst F dX8_end_9 ?_
    refine z_iconst F dX8_end_10 ?_
    refine z_bxi hZ (va_runS (As := [.int (zI (k)), .int (zI (0)), .int (zI (2))]) (rest := []) F (k_X8_in l w dom A hDA sz G k 0 2 (by omega) (by omega) (by omega)) (va_cwS 3 F.2.2.2.2 gX8_end_X8_in rfl rfl rfl (by decide +kernel) ⟨Nat.le_of_ble_eq_true rfl, Nat.le_of_ble_eq_true rfl⟩) (z_preS hK hZ _) rfl rfl hl.1 rfl (lv_room (Nat.le_of_ble_eq_true rfl)) dX8_end_11 ⟨Nat.le_of_ble_eq_true rfl, Nat.le_of_ble_eq_true rfl⟩) (fun H locs hZ => ?_)
    refine z_ifB_ne (tgt := 19) F dX8_end_14 (by decide) (fun c_14 => ?_) (fun c_14 => ?_)
    · skip
      refine z_aload_n F dX8_end_19 rfl (lv_at hl 0 rfl) ?_
      refine z_iload_n F dX8_end_20 rfl (lv_at hl 1 rfl) ?_
      refine z_bipush F (by decide) dX8_end_21 ?_
      refine z_iload_n F dX8_end_23 rfl (lv_at hl 2 rfl) ?_
      refine z_iadd F dX8_end_24 ?_
      refine z_bxi hZ (va_runV (As := [.int (zI (x)), .int (zI (11 + k))]) (rest := []) F (k_X8_get l w dom A hDA sz G hd x (11 + k) (by omega)) (cwV 2 F.2.2.2.2 gX8_end_X8_get rfl rfl rfl (by decide +kernel) ⟨Nat.le_of_ble_eq_true rfl, Nat.le_of_ble_eq_true rfl⟩) (z_preV hK hZ (64) (hd _ (by omega)) rfl (by decide) rfl _) rfl rfl hl.1 rfl (lv_room (Nat.le_of_ble_eq_true rfl)) dX8_end_25 ⟨Nat.le_of_ble_eq_true rfl, Nat.le_of_ble_eq_true rfl⟩) (fun H locs hZ => ?_)
      have r_1 := hZ.2.1.1 (67) (20 * x + (11 + k))
      refine z_if_ne (tgt := 34) F (by omega) dX8_end_28 (by decide) (fun c_28 => ?_) (fun c_28 => ?_)
      · skip
        have ht := tim_set hI (s := x) (k := k) (by omega) (by omega) c_28
        refine z_aload_n F dX8_end_34 rfl (lv_at hl 0 rfl) ?_
        refine z_iload_n F dX8_end_35 rfl (lv_at hl 1 rfl) ?_
        refine z_iload_n F dX8_end_36 rfl (lv_at hl 2 rfl) ?_
        refine z_bxv hZ (va_runV (As := [.int (zI (x)), .int (zI (k))]) (rest := []) F (k_X8_ends l w dom A hDA sz G hd hI x k (by omega) (by omega) (by omega) (by omega)) (cwV 2 F.2.2.2.2 gX8_end_X8_ends rfl rfl rfl (by decide +kernel) ⟨Nat.le_of_ble_eq_true rfl, Nat.le_of_ble_eq_true rfl⟩) (z_preV hK hZ (64) (hd _ (by omega)) rfl (by decide) rfl _) rfl rfl hl.1 rfl (lv_room (Nat.le_of_ble_eq_true rfl)) dX8_end_37 ⟨Nat.le_of_ble_eq_true rfl, Nat.le_of_ble_eq_true rfl⟩) (fun H locs hZ => ?_)
        refine z_aload_n F dX8_end_40 rfl (lv_at hl 0 rfl) ?_
        refine z_get F hK hZ (64) (hd _ (by omega)) rfl (by decide) rfl hin8 7 (by decide) mX8_end_44 rfl rfl dX8_end_41 ?_
        have r_2 := hZ.2.1.1 (64) (7)
        exact z_iret F hr hlocks hZ (by rw [rEnd, if_neg (by omega), if_neg c_28]) (by rw [mEnd, if_neg (by omega), if_neg c_28]) dX8_end_44 (by omega) (by omega)
      · skip
        refine z_bipush F (by decide) dX8_end_31 ?_
        exact z_iret F hr hlocks hZ (by rw [rEnd, if_neg (by omega), if_pos c_28]) (by rw [mEnd, if_neg (by omega), if_pos c_28]) dX8_end_33 (by omega) (by omega)
    · skip
      refine z_iconst F dX8_end_17 ?_
      exact z_iret F hr hlocks hZ (by rw [rEnd, if_pos (by omega)]) (by rw [mEnd, if_pos (by omega)]) dX8_end_18 (by omega) (by omega)

theorem mX8_turns_7 : Cond.fieldLink RX8 7 "LockedChainModel" "isFalse" "[Z" ∈ wsX8_turns := by decide +kernel
theorem mX8_turns_26 : Cond.fieldLink RX8 26 "LockedChainModel" "came" "[Z" ∈ wsX8_turns := by decide +kernel
theorem mX8_turns_29 : Cond.fieldLink RX8 29 "LockedChainModel" "n" "I" ∈ wsX8_turns := by decide +kernel
theorem mX8_turns_44 : Cond.fieldLink RX8 44 "LockedChainModel" "letters" "I" ∈ wsX8_turns := by decide +kernel
set_option maxHeartbeats 4000000 in
set_option maxRecDepth 100000 in
theorem k_X8_turns (l : Launch) (w : zW) (dom : Nat → Prop) (A : Nat → Prop) (hDA : ∀ i, dom i → A (w.2.1 + i)) (sz : Nat) (G : zM) (hd : ∀ i, 64 ≤ i ∧ i < 71 → dom i) (hI : Inv G) : Met l yX8_turns wsX8_turns { frames := 7, cells := 0, slots := 0, locals := 158 } (zPre w dom sz G [.ref (w.2.1 + (64))]) (zQi w dom sz ((turnsM G).2) (fun C => C = (turnsM G).1) A) (0) (0) A := by
  refine Met.ofW (cc := cX8_turns) (maxL := 4) (ret := (some .boolean)) (by decide) rfl ?_
  intro p e s m args below meth c s₁ B hml hv
  obtain ⟨rfl, hsz, hP, hK⟩ := hv
  have F : CallFix p m c cX8_turns 4 s _ wsX8_turns RX8 := ⟨B.exec, B.bytes, hml, findClass_of_methodNamed B.named, atoms_spec (ws := wsX8_turns) B.pre⟩
  have hr := B.returns
  have hlocks := B.notSynchronized
  have hZ : Zs w dom A s.heap sz G s.heap [] := ⟨hsz, hP, va_S.rf⟩
  have hl := lv_entry ([.ref (w.2.1 + (64))]) (n := 4) (Nat.le_of_ble_eq_true rfl)
  rw [lg_entry_eq]
  generalize (lg_sl ([.ref (w.2.1 + (64))]) ++ List.replicate (4 - (lg_sl ([.ref (w.2.1 + (64))])).length) Slot.unset).toArray = ls at hl ⊢
  have hl : lv_has ls 4 [(0, .ref (w.2.1 + (64)))] := hl
  have hin8 : ∀ v ∈ u_ws RX8 TX8 10, v ∈ wsX8_turns := by decide +kernel
  have hn := hI.1
  have hL := hI.2.2.2.1
  refine z_iconst F dX8_turns_0 ?_
  refine z_istore_n (lv' := [(1, .int (zI (0))), (0, .ref (w.2.1 + (64)))]) F dX8_turns_1 rfl hl (by decide) rfl (fun ls hl => ?_)
  refine z_iconst F dX8_turns_2 ?_
  refine z_istore_n (lv' := [(2, .int (zI (0))), (1, .int (zI (0))), (0, .ref (w.2.1 + (64)))]) F dX8_turns_3 rfl hl (by decide) rfl (fun ls hl => ?_)
  have L_4 : ∀ (nf : Nat) (i : Nat) (M : zM) (b : Int), (401 < i + nf) → (i ≤ 400) → (Inv M) → (M 64 0 = G 64 0) → (b = 0 ∨ b = 1) → (brL (401 - i) i M b = bringM G) →  ∀ (H : Heap) (locs : List Loc) (ls : Array Slot), Zs w dom A s.heap sz M H locs → lv_has ls 4 [(0, .ref (w.2.1 + (64))), (1, .int (zI (b))), (2, .int (zI ((i : Int))))] → W p l e (headSpec wsX8_turns { frames := 7, cells := 0, slots := 0, locals := 158 }).room s m ([.ref (w.2.1 + (64))] : List Value).toArray below meth c H locs (0) (0) (MQ below (zQi w dom sz ((turnsM G).2) (fun C => C = (turnsM G).1) A) ([.ref (w.2.1 + (64))] : List Value).toArray s (0) (0) A) (F0 m 4 ls []) := by
    intro nf
    induction nf with
    | zero => intro i  M  b  h4_0 h4_1 h4_2 h4_3 h4_4 h4_5; exact absurd h4_0 (by omega)
    | succ nf ih_4 =>
      intro i  M  b  h4_0 h4_1 h4_2 h4_3 h4_4 h4_5 H locs ls hZ hl
      have hM := h4_2
      have hL1 := hM.2.2.2.1
      refine z_iload_n F dX8_turns_4 rfl (lv_at hl 2 rfl) ?_
      refine z_aload_n F dX8_turns_5 rfl (lv_at hl 0 rfl) ?_
      refine z_get F hK hZ (64) (hd _ (by omega)) rfl (by decide) rfl hin8 7 (by decide) mX8_turns_44 rfl rfl dX8_turns_6 ?_
      have r_1 := hZ.2.1.1 (64) (7)
      refine z_icmp_ge (tgt := 65) F (by omega) (by omega) dX8_turns_9 (by decide) (fun c_9 => ?_) (fun c_9 => ?_)
      · skip
        have hbr : bringM G = (M, b) := by rw [← h4_5, brL_end (by omega)]
        refine z_iload_n F dX8_turns_65 rfl (lv_at hl 1 rfl) ?_
        refine z_if_eq (tgt := 71) F (by omega) dX8_turns_66 (by decide) (fun c_66 => ?_) (fun c_66 => ?_)
        · skip
          refine z_iconst F dX8_turns_71 ?_
          refine z_istore_n (lv' := [(2, .int (zI (0))), (0, .ref (w.2.1 + (64))), (1, .int (zI (b)))]) F dX8_turns_72 rfl hl (by decide) rfl (fun ls hl => ?_)
          have L_73 : ∀ (nf : Nat) (i : Nat) (M : zM) (b : Int), ((G 64 0).toNat + 1 ≤ i + nf) → (i ≤ (G 64 0).toNat) → (Inv M ∧ M 64 0 = G 64 0) → (b = 0 ∨ b = 1) → (rgS ((G 64 0).toNat - i) i M b = turnsM G) →  ∀ (H : Heap) (locs : List Loc) (ls : Array Slot), Zs w dom A s.heap sz M H locs → lv_has ls 4 [(0, .ref (w.2.1 + (64))), (1, .int (zI (b))), (2, .int (zI ((i : Int))))] → W p l e (headSpec wsX8_turns { frames := 7, cells := 0, slots := 0, locals := 158 }).room s m ([.ref (w.2.1 + (64))] : List Value).toArray below meth c H locs (0) (0) (MQ below (zQi w dom sz ((turnsM G).2) (fun C => C = (turnsM G).1) A) ([.ref (w.2.1 + (64))] : List Value).toArray s (0) (0) A) (F0 m 73 ls []) := by
            intro nf
            induction nf with
            | zero => intro i  M  b  h73_0 h73_1 h73_2 h73_3 h73_4; exact absurd h73_0 (by omega)
            | succ nf ih_73 =>
              intro i  M  b  h73_0 h73_1 h73_2 h73_3 h73_4 H locs ls hZ hl
              have hM := h73_2.1
              have hM0 := h73_2.2
              refine z_iload_n F dX8_turns_73 rfl (lv_at hl 2 rfl) ?_
              refine z_aload_n F dX8_turns_74 rfl (lv_at hl 0 rfl) ?_
              refine z_get F hK hZ (64) (hd _ (by omega)) rfl (by decide) rfl hin8 0 (by decide) mX8_turns_29 rfl rfl dX8_turns_75 ?_
              have r_2 := hZ.2.1.1 (64) (0)
              refine z_icmp_ge (tgt := 121) F (by omega) (by omega) dX8_turns_78 (by decide) (fun c_78 => ?_) (fun c_78 => ?_)
              · skip
                have hrs : turnsM G = (M, b) := by rw [← h73_4, show (G 64 0).toNat - i = 0 by omega]; rfl
                refine z_iload_n F dX8_turns_121 rfl (lv_at hl 1 rfl) ?_
                exact z_zret F hr hlocks hZ (by rw [hrs]) (by omega) (by rw [hrs]) dX8_turns_122 (by omega) (by omega)
              · skip
                obtain ⟨M0, hMM⟩ : ∃ q : zM, q = M := ⟨_, rfl⟩; obtain ⟨b0, hb0⟩ : ∃ q : Int, q = b := ⟨_, rfl⟩; subst hMM; subst hb0
                refine z_iconst F dX8_turns_81 ?_
                refine z_istore_n (lv' := [(3, .int (zI (0))), (0, .ref (w.2.1 + (64))), (1, .int (zI (b0))), (2, .int (zI ((i : Int))))]) F dX8_turns_82 rfl hl (by decide) rfl (fun ls hl => ?_)
                have L_83 : ∀ (nf : Nat) (j : Nat) (M : zM) (b : Int), (4 ≤ j + nf) → (j ≤ 3) → (Inv M) → (M 64 0 = M0 64 0) → (True) → (b = 0 ∨ b = 1) → (rgK (i : Int) (3 - j) j M b = rgK (i : Int) 3 0 M0 b0) →  ∀ (H : Heap) (locs : List Loc) (ls : Array Slot), Zs w dom A s.heap sz M H locs → lv_has ls 4 [(0, .ref (w.2.1 + (64))), (1, .int (zI (b))), (2, .int (zI ((i : Int)))), (3, .int (zI ((j : Int))))] → W p l e (headSpec wsX8_turns { frames := 7, cells := 0, slots := 0, locals := 158 }).room s m ([.ref (w.2.1 + (64))] : List Value).toArray below meth c H locs (0) (0) (MQ below (zQi w dom sz ((turnsM G).2) (fun C => C = (turnsM G).1) A) ([.ref (w.2.1 + (64))] : List Value).toArray s (0) (0) A) (F0 m 83 ls []) := by
                  intro nf
                  induction nf with
                  | zero => intro j  M  b  h83_0 h83_1 h83_2 h83_3 h83_4 h83_5 h83_6; exact absurd h83_0 (by omega)
                  | succ nf ih_83 =>
                    intro j  M  b  h83_0 h83_1 h83_2 h83_3 h83_4 h83_5 h83_6 H locs ls hZ hl
                    have hM := h83_2
                    refine z_iload_n F dX8_turns_83 rfl (lv_at hl 3 rfl) ?_
                    refine z_iconst F dX8_turns_84 ?_
                    refine z_icmp_ge (tgt := 115) F (by omega) (by omega) dX8_turns_85 (by decide) (fun c_85 => ?_) (fun c_85 => ?_)
                    · skip
                      have hrk : rgK (i : Int) 3 0 M0 b0 = (M, b) := by rw [← h83_6, show 3 - j = 0 by omega]; rfl
                      refine z_iinc (k := 2) (z := (i : Int)) (lv' := [(2, .int (zI ((i : Int) + 1))), (0, .ref (w.2.1 + (64))), (1, .int (zI (b))), (3, .int (zI ((j : Int))))]) F dX8_turns_115 hl rfl (by decide) rfl (fun ls hl => ?_)
                      refine lv_goto (tgt := 73) F.1 F.2.1 dX8_turns_118 (by decide) ?_
                      exact ih_73 (i + 1) M b (by omega) (by omega) ⟨hM, by omega⟩ h83_5 (by rw [← h73_4, rgS_S (k := (G 64 0).toNat - i) (t := i) (M := M0) (b := b0) (by omega), hrk, Nat.sub_sub]) _ _ _ hZ (lv_sub hl [1, 2, 0] rfl)
                    · skip
                      refine z_aload_n F dX8_turns_88 rfl (lv_at hl 0 rfl) ?_
                      refine z_iload_n F dX8_turns_89 rfl (lv_at hl 2 rfl) ?_
                      refine z_bipush F (by decide) dX8_turns_90 ?_
                      refine z_iload_n F dX8_turns_92 rfl (lv_at hl 3 rfl) ?_
                      refine z_iadd F dX8_turns_93 ?_
                      refine z_bxi hZ (va_runV (As := [.int (zI ((i : Int))), .int (zI (11 + ((j : Int))))]) (rest := []) F (k_X8_get l w dom A hDA sz M hd ((i : Int)) (11 + ((j : Int))) (by omega)) (cwV 2 F.2.2.2.2 gX8_turns_X8_get rfl rfl rfl (by decide +kernel) ⟨Nat.le_of_ble_eq_true rfl, Nat.le_of_ble_eq_true rfl⟩) (z_preV hK hZ (64) (hd _ (by omega)) rfl (by decide) rfl _) rfl rfl hl.1 rfl (lv_room (Nat.le_of_ble_eq_true rfl)) dX8_turns_94 ⟨Nat.le_of_ble_eq_true rfl, Nat.le_of_ble_eq_true rfl⟩) (fun H locs hZ => ?_)
                      have r_3 := hZ.2.1.1 (67) (20 * ((i : Int)) + (11 + ((j : Int))))
                      refine z_iconst F dX8_turns_97 ?_
                      refine z_icmp_ne (tgt := 109) F (by omega) (by omega) dX8_turns_98 (by decide) (fun c_98 => ?_) (fun c_98 => ?_)
                      · skip
                        refine z_iinc (k := 3) (z := (j : Int)) (lv' := [(3, .int (zI ((j : Int) + 1))), (0, .ref (w.2.1 + (64))), (1, .int (zI (b))), (2, .int (zI ((i : Int))))]) F dX8_turns_109 hl rfl (by decide) rfl (fun ls hl => ?_)
                        refine lv_goto (tgt := 83) F.1 F.2.1 dX8_turns_112 (by decide) ?_
                        exact ih_83 (j + 1) M b (by omega) (by omega) hM h83_3 trivial h83_5 (by rw [← h83_6, rgK_f (by omega) c_98, Nat.sub_sub]) _ _ _ hZ (lv_sub hl [1, 2, 3, 0] rfl)
                      · skip
                        have ht := tim_set hM (s := (i : Int)) (k := (j : Int)) (by omega) (by omega) (by omega)
                        have hE := Nx_ends hM (s := (i : Int)) (k := (j : Int)) (by omega) (by omega) ht.1 ht.2.1
                        refine z_iconst F dX8_turns_101 ?_
                        refine z_istore_n (lv' := [(1, .int (zI (1))), (0, .ref (w.2.1 + (64))), (2, .int (zI ((i : Int)))), (3, .int (zI ((j : Int))))]) F dX8_turns_102 rfl hl (by decide) rfl (fun ls hl => ?_)
                        refine z_aload_n F dX8_turns_103 rfl (lv_at hl 1 rfl) ?_
                        refine z_iload_n F dX8_turns_104 rfl (lv_at hl 2 rfl) ?_
                        refine z_iload_n F dX8_turns_105 rfl (lv_at hl 3 rfl) ?_
                        refine z_bxv hZ (va_runV (As := [.int (zI ((i : Int))), .int (zI ((j : Int)))]) (rest := []) F (k_X8_ends l w dom A hDA sz M hd hM ((i : Int)) ((j : Int)) (by omega) (by omega) (by omega) (by omega)) (cwV 2 F.2.2.2.2 gX8_turns_X8_ends rfl rfl rfl (by decide +kernel) ⟨Nat.le_of_ble_eq_true rfl, Nat.le_of_ble_eq_true rfl⟩) (z_preV hK hZ (64) (hd _ (by omega)) rfl (by decide) rfl _) rfl rfl hl.1 rfl (lv_room (Nat.le_of_ble_eq_true rfl)) dX8_turns_106 ⟨Nat.le_of_ble_eq_true rfl, Nat.le_of_ble_eq_true rfl⟩) (fun H locs hZ => ?_)
                        refine z_iinc (k := 3) (z := (j : Int)) (lv' := [(3, .int (zI ((j : Int) + 1))), (1, .int (zI (1))), (0, .ref (w.2.1 + (64))), (2, .int (zI ((i : Int))))]) F dX8_turns_109 hl rfl (by decide) rfl (fun ls hl => ?_)
                        refine lv_goto (tgt := 83) F.1 F.2.1 dX8_turns_112 (by decide) ?_
                        exact ih_83 (j + 1) (endsM M ((i : Int)) ((j : Int))) 1 (by omega) (by omega) hE.1 (by rw [hE.2.1.1]; exact h83_3) trivial (Or.inr rfl) (by rw [← h83_6, rgK_t (by omega) c_98, Nat.sub_sub]) _ _ _ hZ (lv_sub hl [2, 1, 3, 0] rfl)
                exact L_83 4 0 M0 b0 (by omega) (by omega) h73_2.1 rfl trivial h73_3 rfl _ _ _ hZ (lv_sub hl [1, 2, 3, 0] rfl)
          exact L_73 ((G 64 0).toNat + 1) 0 M b (by omega) (by omega) ⟨hM, h4_3⟩ h4_4 (by rw [turnsM, hbr, if_neg (by omega)]; show rgS (G 64 0).toNat 0 M b = rgS (G 64 0).toNat 0 M 0; rw [show b = 0 by omega]) _ _ _ hZ (lv_sub hl [1, 2, 0] rfl)
        · skip
          refine z_iconst F dX8_turns_69 ?_
          exact z_zret F hr hlocks hZ (by rw [turnsM, hbr, if_pos c_66]) (by omega) (by rw [turnsM, hbr, if_pos c_66]) dX8_turns_70 (by omega) (by omega)
      · skip
        have hl9 : brL (401 - i) i M b = brL (401 - (i + 1)) (i + 1) (brS (i : Int) (M 64 0).toNat 0 M b).1 (brS (i : Int) (M 64 0).toNat 0 M b).2 := by rw [brL_S (by omega) c_9, Nat.sub_sub]
        obtain ⟨M0, hM0⟩ : ∃ q : zM, q = M := ⟨_, rfl⟩; obtain ⟨b0, hb0⟩ : ∃ q : Int, q = b := ⟨_, rfl⟩; subst hM0; subst hb0
        refine z_iconst F dX8_turns_12 ?_
        refine z_istore_n (lv' := [(3, .int (zI (0))), (0, .ref (w.2.1 + (64))), (1, .int (zI (b0))), (2, .int (zI ((i : Int))))]) F dX8_turns_13 rfl hl (by decide) rfl (fun ls hl => ?_)
        have L_14 : ∀ (nf : Nat) (j : Nat) (M : zM) (b : Int), ((M0 64 0).toNat + 1 ≤ j + nf) → (j ≤ (M0 64 0).toNat) → (Inv M) → (M 64 0 = M0 64 0) → (M0 64 7 ≤ M 64 7) → (b = 0 ∨ b = 1) → (True) → (brS (i : Int) ((M0 64 0).toNat - j) j M b = brS (i : Int) (M0 64 0).toNat 0 M0 b0) →  ∀ (H : Heap) (locs : List Loc) (ls : Array Slot), Zs w dom A s.heap sz M H locs → lv_has ls 4 [(0, .ref (w.2.1 + (64))), (1, .int (zI (b))), (2, .int (zI ((i : Int)))), (3, .int (zI ((j : Int))))] → W p l e (headSpec wsX8_turns { frames := 7, cells := 0, slots := 0, locals := 158 }).room s m ([.ref (w.2.1 + (64))] : List Value).toArray below meth c H locs (0) (0) (MQ below (zQi w dom sz ((turnsM G).2) (fun C => C = (turnsM G).1) A) ([.ref (w.2.1 + (64))] : List Value).toArray s (0) (0) A) (F0 m 14 ls []) := by
          intro nf
          induction nf with
          | zero => intro j  M  b  h14_0 h14_1 h14_2 h14_3 h14_4 h14_5 h14_6 h14_7; exact absurd h14_0 (by omega)
          | succ nf ih_14 =>
            intro j  M  b  h14_0 h14_1 h14_2 h14_3 h14_4 h14_5 h14_6 h14_7 H locs ls hZ hl
            have hM := h14_2
            have hL2 := hM.2.2.2.1
            refine z_iload_n F dX8_turns_14 rfl (lv_at hl 3 rfl) ?_
            refine z_aload_n F dX8_turns_15 rfl (lv_at hl 0 rfl) ?_
            refine z_get F hK hZ (64) (hd _ (by omega)) rfl (by decide) rfl hin8 0 (by decide) mX8_turns_29 rfl rfl dX8_turns_16 ?_
            have r_4 := hZ.2.1.1 (64) (0)
            refine z_icmp_ge (tgt := 59) F (by omega) (by omega) dX8_turns_19 (by decide) (fun c_19 => ?_) (fun c_19 => ?_)
            · skip
              have hbs : brS (i : Int) (M0 64 0).toNat 0 M0 b0 = (M, b) := by rw [← h14_7, show (M0 64 0).toNat - j = 0 by omega]; rfl
              refine z_iinc (k := 2) (z := (i : Int)) (lv' := [(2, .int (zI ((i : Int) + 1))), (0, .ref (w.2.1 + (64))), (1, .int (zI (b))), (3, .int (zI ((j : Int))))]) F dX8_turns_59 hl rfl (by decide) rfl (fun ls hl => ?_)
              refine lv_goto (tgt := 4) F.1 F.2.1 dX8_turns_62 (by decide) ?_
              exact ih_4 (i + 1) M b (by omega) (by omega) hM (by omega) h14_5 (by rw [← h4_5, hl9, hbs]) _ _ _ hZ (lv_sub hl [1, 2, 0] rfl)
            · skip
              refine z_aload_n F dX8_turns_22 rfl (lv_at hl 0 rfl) ?_
              refine z_get F hK hZ (64) (hd _ (by omega)) rfl (by decide) rfl hin8 3 (by decide) mX8_turns_7 rfl rfl dX8_turns_23 ?_
              refine z_iload_n F dX8_turns_26 rfl (lv_at hl 3 rfl) ?_
              refine z_zald F hK hZ (65) (hd _ (by omega)) rfl (by decide) (by omega) (by omega) dX8_turns_27 ?_
              have r_5 := hZ.2.1.1 (65) ((j : Int))
              refine z_if_ne (tgt := 53) F (by omega) dX8_turns_28 (by decide) (fun c_28 => ?_) (fun c_28 => ?_)
              · skip
                refine z_iinc (k := 3) (z := (j : Int)) (lv' := [(3, .int (zI ((j : Int) + 1))), (0, .ref (w.2.1 + (64))), (1, .int (zI (b))), (2, .int (zI ((i : Int))))]) F dX8_turns_53 hl rfl (by decide) rfl (fun ls hl => ?_)
                refine lv_goto (tgt := 14) F.1 F.2.1 dX8_turns_56 (by decide) ?_
                exact ih_14 (j + 1) M b (by omega) (by omega) hM h14_3 h14_4 h14_5 trivial (by rw [← h14_7, brS_f (k := (M0 64 0).toNat - j) (t := j) (M := M) (b := b) (by omega) (by first | exact fun q => c_28 q.1 | exact fun q => c_42 q.2), Nat.sub_sub]) _ _ _ hZ (lv_sub hl [1, 2, 3, 0] rfl)
              · skip
                refine z_aload_n F dX8_turns_31 rfl (lv_at hl 0 rfl) ?_
                refine z_get F hK hZ (64) (hd _ (by omega)) rfl (by decide) rfl hin8 9 (by decide) mX8_turns_26 rfl rfl dX8_turns_32 ?_
                refine z_bipush F (by decide) dX8_turns_35 ?_
                refine z_iload_n F dX8_turns_37 rfl (lv_at hl 2 rfl) ?_
                refine z_imul F dX8_turns_38 ?_
                refine z_iload_n F dX8_turns_39 rfl (lv_at hl 3 rfl) ?_
                refine z_iadd F dX8_turns_40 ?_
                refine z_zald F hK hZ (70) (hd _ (by omega)) rfl (by decide) (by omega) (by omega) dX8_turns_41 ?_
                have r_6 := hZ.2.1.1 (70) (7 * ((i : Int)) + ((j : Int)))
                refine z_if_ne (tgt := 53) F (by omega) dX8_turns_42 (by decide) (fun c_42 => ?_) (fun c_42 => ?_)
                · skip
                  refine z_iinc (k := 3) (z := (j : Int)) (lv' := [(3, .int (zI ((j : Int) + 1))), (0, .ref (w.2.1 + (64))), (1, .int (zI (b))), (2, .int (zI ((i : Int))))]) F dX8_turns_53 hl rfl (by decide) rfl (fun ls hl => ?_)
                  refine lv_goto (tgt := 14) F.1 F.2.1 dX8_turns_56 (by decide) ?_
                  exact ih_14 (j + 1) M b (by omega) (by omega) hM h14_3 h14_4 h14_5 trivial (by rw [← h14_7, brS_f (k := (M0 64 0).toNat - j) (t := j) (M := M) (b := b) (by omega) (by first | exact fun q => c_28 q.1 | exact fun q => c_42 q.2), Nat.sub_sub]) _ _ _ hZ (lv_sub hl [1, 2, 3, 0] rfl)
                · skip
                  have hC := Nx_comes hM (l := (i : Int)) (s := (j : Int)) (by omega) (by omega)
                  refine z_iconst F dX8_turns_45 ?_
                  refine z_istore_n (lv' := [(1, .int (zI (1))), (0, .ref (w.2.1 + (64))), (2, .int (zI ((i : Int)))), (3, .int (zI ((j : Int))))]) F dX8_turns_46 rfl hl (by decide) rfl (fun ls hl => ?_)
                  refine z_aload_n F dX8_turns_47 rfl (lv_at hl 1 rfl) ?_
                  refine z_iload_n F dX8_turns_48 rfl (lv_at hl 2 rfl) ?_
                  refine z_iload_n F dX8_turns_49 rfl (lv_at hl 3 rfl) ?_
                  refine z_bxv hZ (va_runV (As := [.int (zI ((i : Int))), .int (zI ((j : Int)))]) (rest := []) F (k_X8_comes l w dom A hDA sz M hd hM ((i : Int)) ((j : Int)) (by omega) (by omega)) (cwV 2 F.2.2.2.2 gX8_turns_X8_comes rfl rfl rfl (by decide +kernel) ⟨Nat.le_of_ble_eq_true rfl, Nat.le_of_ble_eq_true rfl⟩) (z_preV hK hZ (64) (hd _ (by omega)) rfl (by decide) rfl _) rfl rfl hl.1 rfl (lv_room (Nat.le_of_ble_eq_true rfl)) dX8_turns_50 ⟨Nat.le_of_ble_eq_true rfl, Nat.le_of_ble_eq_true rfl⟩) (fun H locs hZ => ?_)
                  refine z_iinc (k := 3) (z := (j : Int)) (lv' := [(3, .int (zI ((j : Int) + 1))), (1, .int (zI (1))), (0, .ref (w.2.1 + (64))), (2, .int (zI ((i : Int))))]) F dX8_turns_53 hl rfl (by decide) rfl (fun ls hl => ?_)
                  refine lv_goto (tgt := 14) F.1 F.2.1 dX8_turns_56 (by decide) ?_
                  exact ih_14 (j + 1) (comesM M ((i : Int)) ((j : Int))) 1 (by omega) (by omega) hC.1 (by rw [hC.2.1.1]; exact h14_3) (by have := hC.2.2.2.2; omega) (Or.inr rfl) trivial (by rw [← h14_7, brS_t (by omega) ⟨c_28, c_42⟩, Nat.sub_sub]) _ _ _ hZ (lv_sub hl [2, 1, 3, 0] rfl)
        exact L_14 ((M0 64 0).toNat + 1) 0 M0 b0 (by omega) (by omega) h4_2 rfl (by omega) h4_4 trivial rfl _ _ _ hZ (lv_sub hl [1, 2, 3, 0] rfl)
  exact L_4 402 0 G 0 (by omega) (by omega) hI rfl (Or.inl rfl) rfl _ _ _ hZ (lv_sub hl [2, 1, 0] rfl)

theorem mX8_fair_40 : Cond.fieldLink RX8 40 "LockedChainModel" "begun" "Z" ∈ wsX8_fair := by decide +kernel
set_option maxHeartbeats 4000000 in
set_option maxRecDepth 100000 in
theorem k_X8_fair (l : Launch) (w : zW) (dom : Nat → Prop) (A : Nat → Prop) (hDA : ∀ i, dom i → A (w.2.1 + i)) (sz : Nat) (G : zM) (hd : ∀ i, 64 ≤ i ∧ i < 71 → dom i) (hI : Inv G) (k : Int) (hk : -2147483648 ≤ k ∧ k < 2147483648) : Met l yX8_fair wsX8_fair { frames := 8, cells := 0, slots := 0, locals := 181 } (zPre w dom sz G [.ref (w.2.1 + (64)), .int (zI (k))]) (zQi w dom sz (rFair G k) (fun C => C = mFair G k) A) (0) (0) A := by
  refine Met.ofW (cc := cX8_fair) (maxL := 3) (ret := (some .int)) (by decide) rfl ?_
  intro p e s m args below meth c s₁ B hml hv
  obtain ⟨rfl, hsz, hP, hK⟩ := hv
  have F : CallFix p m c cX8_fair 3 s _ wsX8_fair RX8 := ⟨B.exec, B.bytes, hml, findClass_of_methodNamed B.named, atoms_spec (ws := wsX8_fair) B.pre⟩
  have hr := B.returns
  have hlocks := B.notSynchronized
  have hZ : Zs w dom A s.heap sz G s.heap [] := ⟨hsz, hP, va_S.rf⟩
  have hl := lv_entry ([.ref (w.2.1 + (64)), .int (zI (k))]) (n := 3) (Nat.le_of_ble_eq_true rfl)
  rw [lg_entry_eq]
  generalize (lg_sl ([.ref (w.2.1 + (64)), .int (zI (k))]) ++ List.replicate (3 - (lg_sl ([.ref (w.2.1 + (64)), .int (zI (k))])).length) Slot.unset).toArray = ls at hl ⊢
  have hl : lv_has ls 3 [(0, .ref (w.2.1 + (64))), (1, .int (zI (k)))] := hl
  have hin8 : ∀ v ∈ u_ws RX8 TX8 10, v ∈ wsX8_fair := by decide +kernel
  have hn := hI.1
  have hL := hI.2.2.2.1
  refine z_iload_n F dX8_fair_0 rfl (lv_at hl 1 rfl) ?_
  refine z_iconst F dX8_fair_1 ?_
  refine z_bipush F (by decide) dX8_fair_2 ?_
  refine z_bxi hZ (va_runS (As := [.int (zI (k)), .int (zI (1)), .int (zI (30))]) (rest := []) F (k_X8_in l w dom A hDA sz G k 1 30 (by omega) (by omega) (by omega)) (va_cwS 3 F.2.2.2.2 gX8_fair_X8_in rfl rfl rfl (by decide +kernel) ⟨Nat.le_of_ble_eq_true rfl, Nat.le_of_ble_eq_true rfl⟩) (z_preS hK hZ _) rfl rfl hl.1 rfl (lv_room (Nat.le_of_ble_eq_true rfl)) dX8_fair_4 ⟨Nat.le_of_ble_eq_true rfl, Nat.le_of_ble_eq_true rfl⟩) (fun H locs hZ => ?_)
  refine z_ifB_ne (tgt := 12) F dX8_fair_7 (by decide) (fun c_7 => ?_) (fun c_7 => ?_)
  · skip
    refine z_aload_n F dX8_fair_12 rfl (lv_at hl 0 rfl) ?_
    refine z_get F hK hZ (64) (hd _ (by omega)) rfl (by decide) rfl hin8 2 (by decide) mX8_fair_40 rfl rfl dX8_fair_13 ?_
    have r_1 := hZ.2.1.1 (64) (2)
    refine z_if_ne (tgt := 22) F (by omega) dX8_fair_16 (by decide) (fun c_16 => ?_) (fun c_16 => ?_)
    · skip
      refine z_iconst F dX8_fair_22 ?_
      refine z_istore_n (lv' := [(2, .int (zI (0))), (0, .ref (w.2.1 + (64))), (1, .int (zI (k)))]) F dX8_fair_23 rfl hl (by decide) rfl (fun ls hl => ?_)
      have L_24 : ∀ (nf : Nat) (i : Nat) (M : zM), (k.toNat + 1 ≤ i + nf) → (i ≤ k.toNat) → (Inv M) → (fairF (k.toNat - i) (i : Int) M = fairF k.toNat 0 G) →  ∀ (H : Heap) (locs : List Loc) (ls : Array Slot), Zs w dom A s.heap sz M H locs → lv_has ls 3 [(0, .ref (w.2.1 + (64))), (1, .int (zI (k))), (2, .int (zI ((i : Int))))] → W p l e (headSpec wsX8_fair { frames := 8, cells := 0, slots := 0, locals := 181 }).room s m ([.ref (w.2.1 + (64)), .int (zI (k))] : List Value).toArray below meth c H locs (0 + 0) (0 + 0) (MQ below (zQi w dom sz (rFair G k) (fun C => C = mFair G k) A) ([.ref (w.2.1 + (64)), .int (zI (k))] : List Value).toArray s (0) (0) A) (F0 m 24 ls []) := by
        intro nf
        induction nf with
        | zero => intro i  M  h24_0 h24_1 h24_2 h24_3; exact absurd h24_0 (by omega)
        | succ nf ih_24 =>
          intro i  M  h24_0 h24_1 h24_2 h24_3 H locs ls hZ hl
          have hM := h24_2
          have hT := Nx_turns hM
          refine z_iload_n F dX8_fair_24 rfl (lv_at hl 2 rfl) ?_
          refine z_iload_n F dX8_fair_25 rfl (lv_at hl 1 rfl) ?_
          refine z_icmp_ge (tgt := 42) F (by omega) (by omega) dX8_fair_26 (by decide) (fun c_26 => ?_) (fun c_26 => ?_)
          · skip
            have hf : fairF k.toNat 0 G = (M, (i : Int)) := by rw [← h24_3, show k.toNat - i = 0 by omega]; rfl
            refine z_iload_n F dX8_fair_42 rfl (lv_at hl 2 rfl) ?_
            exact z_iret F hr hlocks hZ (by rw [rFair, if_neg (fun q => q c_7), if_neg c_16, hf]) (by rw [mFair, if_neg (fun q => q c_7), if_neg c_16, hf]) dX8_fair_43 (by omega) (by omega)
          · skip
            refine z_aload_n F dX8_fair_29 rfl (lv_at hl 0 rfl) ?_
            refine z_bxi hZ (va_runV (As := []) (rest := []) F (k_X8_turns l w dom A hDA sz M hd hM) (cwV 0 F.2.2.2.2 gX8_fair_X8_turns rfl rfl rfl (by decide +kernel) ⟨Nat.le_of_ble_eq_true rfl, Nat.le_of_ble_eq_true rfl⟩) (z_preV hK hZ (64) (hd _ (by omega)) rfl (by decide) rfl _) rfl rfl hl.1 rfl (lv_room (Nat.le_of_ble_eq_true rfl)) dX8_fair_30 ⟨Nat.le_of_ble_eq_true rfl, Nat.le_of_ble_eq_true rfl⟩) (fun H locs hZ => ?_)
            refine z_if_eq (tgt := 42) F (by omega) dX8_fair_33 (by decide) (fun c_33 => ?_) (fun c_33 => ?_)
            · skip
              have hf : fairF k.toNat 0 G = ((turnsM M).1, (i : Int)) := by rw [← h24_3, fairF_f (k := k.toNat - i) (by omega) (fun q => q c_33)]
              refine z_iload_n F dX8_fair_42 rfl (lv_at hl 2 rfl) ?_
              exact z_iret F hr hlocks hZ (by rw [rFair, if_neg (fun q => q c_7), if_neg c_16, hf]) (by rw [mFair, if_neg (fun q => q c_7), if_neg c_16, hf]) dX8_fair_43 (by omega) (by omega)
            · skip
              refine z_iinc (k := 2) (z := (i : Int)) (lv' := [(2, .int (zI ((i : Int) + 1))), (0, .ref (w.2.1 + (64))), (1, .int (zI (k)))]) F dX8_fair_36 hl rfl (by decide) rfl (fun ls hl => ?_)
              refine lv_goto (tgt := 24) F.1 F.2.1 dX8_fair_39 (by decide) ?_
              exact ih_24 (i + 1) (turnsM M).1 (by omega) (by omega) hT.1.1 (by rw [← h24_3, fairF_t (by omega) c_33, Nat.sub_sub]; rfl) _ _ _ hZ (lv_sub hl [1, 2, 0] rfl)
      exact L_24 (k.toNat + 1) 0 G (by omega) (by omega) hI rfl _ _ _ hZ (lv_sub hl [1, 2, 0] rfl)
    · skip
      refine z_bipush F (by decide) dX8_fair_19 ?_
      exact z_iret F hr hlocks hZ (by rw [rFair, if_neg (fun q => q c_7), if_pos c_16]) (by rw [mFair, if_neg (fun q => q c_7), if_pos c_16]) dX8_fair_21 (by omega) (by omega)
  · skip
    refine z_iconst F dX8_fair_10 ?_
    exact z_iret F hr hlocks hZ (by rw [rFair, if_pos c_7]) (by rw [mFair, if_pos c_7]) dX8_fair_11 (by omega) (by omega)
