set_option maxHeartbeats 4000000 in
set_option maxRecDepth 100000 in
theorem w_X0_clear (l : Launch) (w : zW) (dom : Nat → Prop) (A : Nat → Prop) (hDA : ∀ i, dom i → A (w.2.1 + i)) (sz : Nat) (G : zM) (j : Nat) (hj : j < 7) (hd : ∀ i, 8 + 8 * j ≤ i ∧ i < 8 + 8 * j + 8 → dom i) : Met l yX0_clear wsX0_clear { frames := 1, cells := 0, slots := 0, locals := 23 } (zPre w dom sz G [.ref (w.2.1 + (8 + 8 * j + 3))]) (zQv w dom sz (fun C => C = cChClr G j) A) (0) (0) A := by
  refine Met.ofW (cc := cX0_clear) (maxL := 1) (ret := none) (by decide) rfl ?_
  intro p e s m args below meth c s₁ B hml hv
  obtain ⟨rfl, hsz, hP, hK⟩ := hv
  have F : CallFix p m c cX0_clear 1 s _ wsX0_clear RX0 := ⟨B.exec, B.bytes, hml, findClass_of_methodNamed B.named, atoms_spec (ws := wsX0_clear) B.pre⟩
  have hr := B.returns
  have hlocks := B.notSynchronized
  have hZ : Zs w dom A s.heap sz G s.heap [] := ⟨hsz, hP, va_S.rf⟩
  have hl := lv_entry ([.ref (w.2.1 + (8 + 8 * j + 3))]) (n := 1) (Nat.le_of_ble_eq_true rfl)
  rw [lg_entry_eq]
  generalize (lg_sl ([.ref (w.2.1 + (8 + 8 * j + 3))]) ++ List.replicate (1 - (lg_sl ([.ref (w.2.1 + (8 + 8 * j + 3))])).length) Slot.unset).toArray = ls at hl ⊢
  have hl : lv_has ls 1 [(0, .ref (w.2.1 + (8 + 8 * j + 3)))] := hl
  have hin0 : ∀ v ∈ u_ws RX0 TX0 2, v ∈ wsX0_clear := by decide +kernel
  refine z_aload_n F dX0_clear_0 rfl (lv_at hl 0 rfl) ?_
  refine z_get F hK hZ (8 + 8 * j + 3) (hd _ (by omega)) (shp_chain j hj) (by decide) rfl hin0 0 (by decide) mX0_clear_9 rfl rfl dX0_clear_1 ?_
  refine z_bipush F (by decide) dX0_clear_4 ?_
  refine z_bxv hZ (va_runS (As := [.ref (w.2.1 + (8 + 8 * j + 4)), .int (zI (-4))]) (rest := []) F (k_J7_fill_53178 l w dom A hDA sz G (8 + 8 * j + 4) 6 (hd _ (by omega)) (shp_vals j hj) (by decide) (-4) (by omega)) (va_cwS 2 F.2.2.2.2 gX0_clear_J7_fill_53178 rfl rfl rfl (by decide +kernel) ⟨Nat.le_of_ble_eq_true rfl, Nat.le_of_ble_eq_true rfl⟩) (z_preS hK hZ _) rfl rfl hl.1 rfl (lv_room (Nat.le_of_ble_eq_true rfl)) dX0_clear_6 ⟨Nat.le_of_ble_eq_true rfl, Nat.le_of_ble_eq_true rfl⟩) (fun H locs hZ => ?_)
  refine z_aload_n F dX0_clear_9 rfl (lv_at hl 0 rfl) ?_
  refine z_get F hK hZ (8 + 8 * j + 3) (hd _ (by omega)) (shp_chain j hj) (by decide) rfl hin0 1 (by decide) mX0_clear_15 rfl rfl dX0_clear_10 ?_
  refine z_bipush F (by decide) dX0_clear_13 ?_
  refine z_bxv hZ (va_runS (As := [.ref (w.2.1 + (8 + 8 * j + 5)), .int (zI (-4))]) (rest := []) F (k_J7_fill_53178 l w dom A hDA sz (fillM G (8 + 8 * j + 4) 0 6 (-4)) (8 + 8 * j + 5) 6 (hd _ (by omega)) (shp_rnds j hj) (by decide) (-4) (by omega)) (va_cwS 2 F.2.2.2.2 gX0_clear_J7_fill_53178 rfl rfl rfl (by decide +kernel) ⟨Nat.le_of_ble_eq_true rfl, Nat.le_of_ble_eq_true rfl⟩) (z_preS hK hZ _) rfl rfl hl.1 rfl (lv_room (Nat.le_of_ble_eq_true rfl)) dX0_clear_15 ⟨Nat.le_of_ble_eq_true rfl, Nat.le_of_ble_eq_true rfl⟩) (fun H locs hZ => ?_)
  exact z_vret F hr hlocks hZ rfl dX0_clear_18 (by omega) (by omega)

set_option maxHeartbeats 4000000 in
set_option maxRecDepth 100000 in
theorem w_X6_enter (l : Launch) (w : zW) (dom : Nat → Prop) (A : Nat → Prop) (hDA : ∀ i, dom i → A (w.2.1 + i)) (sz : Nat) (G : zM) (j : Nat) (hj : j < 7) (hd : ∀ i, 8 + 8 * j ≤ i ∧ i < 8 + 8 * j + 8 → dom i) (r : Int) (hr : -2147483648 ≤ r ∧ r < 2147483648) : Met l yX6_enter wsX6_enter { frames := 0, cells := 0, slots := 0, locals := 0 } (zPre w dom sz G [.ref (w.2.1 + (8 + 8 * j)), .int (zI (r))]) (zQv w dom sz (fun C => C = cEnter G j r) A) (0) (0) A := by
  refine Met.ofW (cc := cX6_enter) (maxL := 2) (ret := none) (by decide) rfl ?_
  intro p e s m args below meth c s₁ B hml hv
  obtain ⟨rfl, hsz, hP, hK⟩ := hv
  have F : CallFix p m c cX6_enter 2 s _ wsX6_enter RX6 := ⟨B.exec, B.bytes, hml, findClass_of_methodNamed B.named, atoms_spec (ws := wsX6_enter) B.pre⟩
  have hr := B.returns
  have hlocks := B.notSynchronized
  have hZ : Zs w dom A s.heap sz G s.heap [] := ⟨hsz, hP, va_S.rf⟩
  have hl := lv_entry ([.ref (w.2.1 + (8 + 8 * j)), .int (zI (r))]) (n := 2) (Nat.le_of_ble_eq_true rfl)
  rw [lg_entry_eq]
  generalize (lg_sl ([.ref (w.2.1 + (8 + 8 * j)), .int (zI (r))]) ++ List.replicate (2 - (lg_sl ([.ref (w.2.1 + (8 + 8 * j)), .int (zI (r))])).length) Slot.unset).toArray = ls at hl ⊢
  have hl : lv_has ls 2 [(0, .ref (w.2.1 + (8 + 8 * j))), (1, .int (zI (r)))] := hl
  have hin6 : ∀ v ∈ u_ws RX6 TX6 15, v ∈ wsX6_enter := by decide +kernel
  refine z_aload_n F dX6_enter_0 rfl (lv_at hl 0 rfl) ?_
  refine z_iload_n F dX6_enter_1 rfl (lv_at hl 1 rfl) ?_
  refine z_put (z := r) F hK hZ hDA (8 + 8 * j) (hd _ (by omega)) (shp_seat j hj) (by decide) rfl hin6 tyX6 tyX6_ok nmX6 3 (by decide) mX6_enter_71 rfl rfl rfl rfl (by omega) (kz := 3) rfl rfl (Nat.le_of_ble_eq_true rfl) dX6_enter_2 (fun H locs hZ => ?_)
  refine z_aload_n F dX6_enter_5 rfl (lv_at hl 0 rfl) ?_
  refine z_iconst F dX6_enter_6 ?_
  refine z_put (z := 0) F hK hZ hDA (8 + 8 * j) (hd _ (by omega)) (shp_seat j hj) (by decide) rfl hin6 tyX6 tyX6_ok nmX6 4 (by decide) mX6_enter_74 rfl rfl rfl rfl (by omega) (kz := 4) rfl rfl (Nat.le_of_ble_eq_true rfl) dX6_enter_7 (fun H locs hZ => ?_)
  refine z_aload_n F dX6_enter_10 rfl (lv_at hl 0 rfl) ?_
  refine z_iconst F dX6_enter_11 ?_
  refine z_put (z := 0) F hK hZ hDA (8 + 8 * j) (hd _ (by omega)) (shp_seat j hj) (by decide) rfl hin6 tyX6 tyX6_ok nmX6 6 (by decide) mX6_enter_77 rfl rfl rfl rfl (by omega) (kz := 6) rfl rfl (Nat.le_of_ble_eq_true rfl) dX6_enter_12 (fun H locs hZ => ?_)
  refine z_aload_n F dX6_enter_15 rfl (lv_at hl 0 rfl) ?_
  refine z_iconst F dX6_enter_16 ?_
  refine z_put (z := 0) F hK hZ hDA (8 + 8 * j) (hd _ (by omega)) (shp_seat j hj) (by decide) rfl hin6 tyX6 tyX6_ok nmX6 7 (by decide) mX6_enter_80 rfl rfl rfl rfl (by omega) (kz := 7) rfl rfl (Nat.le_of_ble_eq_true rfl) dX6_enter_17 (fun H locs hZ => ?_)
  refine z_aload_n F dX6_enter_20 rfl (lv_at hl 0 rfl) ?_
  refine z_iconst F dX6_enter_21 ?_
  refine z_put (z := 0) F hK hZ hDA (8 + 8 * j) (hd _ (by omega)) (shp_seat j hj) (by decide) rfl hin6 tyX6 tyX6_ok nmX6 8 (by decide) mX6_enter_83 rfl rfl rfl rfl (by omega) (kz := 8) rfl rfl (Nat.le_of_ble_eq_true rfl) dX6_enter_22 (fun H locs hZ => ?_)
  exact z_vret F hr hlocks hZ rfl dX6_enter_25 (by omega) (by omega)

set_option maxHeartbeats 4000000 in
set_option maxRecDepth 100000 in
theorem w_X6_clearHeight (l : Launch) (w : zW) (dom : Nat → Prop) (A : Nat → Prop) (hDA : ∀ i, dom i → A (w.2.1 + i)) (sz : Nat) (G : zM) (j : Nat) (hj : j < 7) (hd : ∀ i, 8 + 8 * j ≤ i ∧ i < 8 + 8 * j + 8 → dom i) : Met l yX6_clearHeight wsX6_clearHeight { frames := 1, cells := 0, slots := 0, locals := 23 } (zPre w dom sz G [.ref (w.2.1 + (8 + 8 * j))]) (zQv w dom sz (fun C => C = cClrH G j) A) (0) (0) A := by
  refine Met.ofW (cc := cX6_clearHeight) (maxL := 1) (ret := none) (by decide) rfl ?_
  intro p e s m args below meth c s₁ B hml hv
  obtain ⟨rfl, hsz, hP, hK⟩ := hv
  have F : CallFix p m c cX6_clearHeight 1 s _ wsX6_clearHeight RX6 := ⟨B.exec, B.bytes, hml, findClass_of_methodNamed B.named, atoms_spec (ws := wsX6_clearHeight) B.pre⟩
  have hr := B.returns
  have hlocks := B.notSynchronized
  have hZ : Zs w dom A s.heap sz G s.heap [] := ⟨hsz, hP, va_S.rf⟩
  have hl := lv_entry ([.ref (w.2.1 + (8 + 8 * j))]) (n := 1) (Nat.le_of_ble_eq_true rfl)
  rw [lg_entry_eq]
  generalize (lg_sl ([.ref (w.2.1 + (8 + 8 * j))]) ++ List.replicate (1 - (lg_sl ([.ref (w.2.1 + (8 + 8 * j))])).length) Slot.unset).toArray = ls at hl ⊢
  have hl : lv_has ls 1 [(0, .ref (w.2.1 + (8 + 8 * j)))] := hl
  have hin6 : ∀ v ∈ u_ws RX6 TX6 15, v ∈ wsX6_clearHeight := by decide +kernel
  refine z_aload_n F dX6_clearHeight_0 rfl (lv_at hl 0 rfl) ?_
  refine z_iconst F dX6_clearHeight_1 ?_
  refine z_put (z := 0) F hK hZ hDA (8 + 8 * j) (hd _ (by omega)) (shp_seat j hj) (by decide) rfl hin6 tyX6 tyX6_ok nmX6 5 (by decide) mX6_clearHeight_57 rfl rfl rfl rfl (by omega) (kz := 5) rfl rfl (Nat.le_of_ble_eq_true rfl) dX6_clearHeight_2 (fun H locs hZ => ?_)
  refine z_aload_n F dX6_clearHeight_5 rfl (lv_at hl 0 rfl) ?_
  refine z_get F hK hZ (8 + 8 * j) (hd _ (by omega)) (shp_seat j hj) (by decide) rfl hin6 10 (by decide) mX6_clearHeight_12 rfl rfl dX6_clearHeight_6 ?_
  refine z_bxv hZ (va_runV (As := []) (rest := []) F (k_X3_clear l w dom A hDA sz (up G (8 + 8 * j) (5) (0)) (8 + 8 * j + 1) (hd _ (by omega)) (shp_lock j hj)) (cwV 0 F.2.2.2.2 gX6_clearHeight_X3_clear rfl rfl rfl (by decide +kernel) ⟨Nat.le_of_ble_eq_true rfl, Nat.le_of_ble_eq_true rfl⟩) (z_preV hK hZ (8 + 8 * j + 1) (hd _ (by omega)) (shp_lock j hj) (by decide) rfl _) rfl rfl hl.1 rfl (lv_room (Nat.le_of_ble_eq_true rfl)) dX6_clearHeight_9 ⟨Nat.le_of_ble_eq_true rfl, Nat.le_of_ble_eq_true rfl⟩) (fun H locs hZ => ?_)
  refine z_aload_n F dX6_clearHeight_12 rfl (lv_at hl 0 rfl) ?_
  refine z_get F hK hZ (8 + 8 * j) (hd _ (by omega)) (shp_seat j hj) (by decide) rfl hin6 11 (by decide) mX6_clearHeight_18 rfl rfl dX6_clearHeight_13 ?_
  refine z_bxv hZ (va_runV (As := []) (rest := []) F (k_X3_clear l w dom A hDA sz (cMark (up G (8 + 8 * j) (5) (0)) (8 + 8 * j + 1)) (8 + 8 * j + 2) (hd _ (by omega)) (shp_valid j hj)) (cwV 0 F.2.2.2.2 gX6_clearHeight_X3_clear rfl rfl rfl (by decide +kernel) ⟨Nat.le_of_ble_eq_true rfl, Nat.le_of_ble_eq_true rfl⟩) (z_preV hK hZ (8 + 8 * j + 2) (hd _ (by omega)) (shp_valid j hj) (by decide) rfl _) rfl rfl hl.1 rfl (lv_room (Nat.le_of_ble_eq_true rfl)) dX6_clearHeight_16 ⟨Nat.le_of_ble_eq_true rfl, Nat.le_of_ble_eq_true rfl⟩) (fun H locs hZ => ?_)
  refine z_aload_n F dX6_clearHeight_19 rfl (lv_at hl 0 rfl) ?_
  refine z_get F hK hZ (8 + 8 * j) (hd _ (by omega)) (shp_seat j hj) (by decide) rfl hin6 14 (by decide) mX6_clearHeight_32 rfl rfl dX6_clearHeight_20 ?_
  refine z_iconst F dX6_clearHeight_23 ?_
  refine z_bxv hZ (va_runS (As := [.ref (w.2.1 + (8 + 8 * j + 7)), .int (zI (-1))]) (rest := []) F (k_J7_fill_53178 l w dom A hDA sz (cMark (cMark (up G (8 + 8 * j) (5) (0)) (8 + 8 * j + 1)) (8 + 8 * j + 2)) (8 + 8 * j + 7) 3 (hd _ (by omega)) (shp_tims j hj) (by decide) (-1) (by omega)) (va_cwS 2 F.2.2.2.2 gX6_clearHeight_J7_fill_53178 rfl rfl rfl (by decide +kernel) ⟨Nat.le_of_ble_eq_true rfl, Nat.le_of_ble_eq_true rfl⟩) (z_preS hK hZ _) rfl rfl hl.1 rfl (lv_room (Nat.le_of_ble_eq_true rfl)) dX6_clearHeight_24 ⟨Nat.le_of_ble_eq_true rfl, Nat.le_of_ble_eq_true rfl⟩) (fun H locs hZ => ?_)
  refine z_aload_n F dX6_clearHeight_27 rfl (lv_at hl 0 rfl) ?_
  refine z_iconst F dX6_clearHeight_28 ?_
  refine z_bxv hZ (va_runV (As := [.int (zI (0))]) (rest := []) F (w_X6_enter l w dom A hDA sz (fillM (cMark (cMark (up G (8 + 8 * j) (5) (0)) (8 + 8 * j + 1)) (8 + 8 * j + 2)) (8 + 8 * j + 7) 0 3 (-1)) j hj hd 0 (by omega)) (cwV 1 F.2.2.2.2 gX6_clearHeight_X6_enter rfl rfl rfl (by decide +kernel) ⟨Nat.le_of_ble_eq_true rfl, Nat.le_of_ble_eq_true rfl⟩) (z_preV hK hZ (8 + 8 * j) (hd _ (by omega)) (shp_seat j hj) (by decide) rfl _) rfl rfl hl.1 rfl (lv_room (Nat.le_of_ble_eq_true rfl)) dX6_clearHeight_29 ⟨Nat.le_of_ble_eq_true rfl, Nat.le_of_ble_eq_true rfl⟩) (fun H locs hZ => ?_)
  exact z_vret F hr hlocks hZ rfl dX6_clearHeight_32 (by omega) (by omega)

set_option maxHeartbeats 4000000 in
set_option maxRecDepth 100000 in
theorem w_X6_clear (l : Launch) (w : zW) (dom : Nat → Prop) (A : Nat → Prop) (hDA : ∀ i, dom i → A (w.2.1 + i)) (sz : Nat) (G : zM) (j : Nat) (hj : j < 7) (hd : ∀ i, 8 + 8 * j ≤ i ∧ i < 8 + 8 * j + 8 → dom i) : Met l yX6_clear wsX6_clear { frames := 2, cells := 0, slots := 0, locals := 43 } (zPre w dom sz G [.ref (w.2.1 + (8 + 8 * j))]) (zQv w dom sz (fun C => C = cClr G j) A) (0) (0) A := by
  refine Met.ofW (cc := cX6_clear) (maxL := 2) (ret := none) (by decide) rfl ?_
  intro p e s m args below meth c s₁ B hml hv
  obtain ⟨rfl, hsz, hP, hK⟩ := hv
  have F : CallFix p m c cX6_clear 2 s _ wsX6_clear RX6 := ⟨B.exec, B.bytes, hml, findClass_of_methodNamed B.named, atoms_spec (ws := wsX6_clear) B.pre⟩
  have hr := B.returns
  have hlocks := B.notSynchronized
  have hZ : Zs w dom A s.heap sz G s.heap [] := ⟨hsz, hP, va_S.rf⟩
  have hl := lv_entry ([.ref (w.2.1 + (8 + 8 * j))]) (n := 2) (Nat.le_of_ble_eq_true rfl)
  rw [lg_entry_eq]
  generalize (lg_sl ([.ref (w.2.1 + (8 + 8 * j))]) ++ List.replicate (2 - (lg_sl ([.ref (w.2.1 + (8 + 8 * j))])).length) Slot.unset).toArray = ls at hl ⊢
  have hl : lv_has ls 2 [(0, .ref (w.2.1 + (8 + 8 * j)))] := hl
  have hin6 : ∀ v ∈ u_ws RX6 TX6 15, v ∈ wsX6_clear := by decide +kernel
  refine z_aload_n F dX6_clear_0 rfl (lv_at hl 0 rfl) ?_
  refine z_iconst F dX6_clear_1 ?_
  refine z_put (z := 0) F hK hZ hDA (8 + 8 * j) (hd _ (by omega)) (shp_seat j hj) (by decide) rfl hin6 tyX6 tyX6_ok nmX6 1 (by decide) mX6_clear_43 rfl rfl rfl rfl (by omega) (kz := 1) rfl rfl (Nat.le_of_ble_eq_true rfl) dX6_clear_2 (fun H locs hZ => ?_)
  refine z_aload_n F dX6_clear_5 rfl (lv_at hl 0 rfl) ?_
  refine z_iconst F dX6_clear_6 ?_
  refine z_put (z := 0) F hK hZ hDA (8 + 8 * j) (hd _ (by omega)) (shp_seat j hj) (by decide) rfl hin6 tyX6 tyX6_ok nmX6 2 (by decide) mX6_clear_47 rfl rfl rfl rfl (by omega) (kz := 2) rfl rfl (Nat.le_of_ble_eq_true rfl) dX6_clear_7 (fun H locs hZ => ?_)
  refine z_aload_n F dX6_clear_10 rfl (lv_at hl 0 rfl) ?_
  refine z_iconst F dX6_clear_11 ?_
  refine z_put (z := 0) F hK hZ hDA (8 + 8 * j) (hd _ (by omega)) (shp_seat j hj) (by decide) rfl hin6 tyX6 tyX6_ok nmX6 9 (by decide) mX6_clear_50 rfl rfl rfl rfl (by omega) (kz := 9) rfl rfl (Nat.le_of_ble_eq_true rfl) dX6_clear_12 (fun H locs hZ => ?_)
  refine z_iconst F dX6_clear_15 ?_
  refine z_istore_n (lv' := [(1, .int (zI (0))), (0, .ref (w.2.1 + (8 + 8 * j)))]) F dX6_clear_16 rfl hl (by decide) rfl (fun ls hl => ?_)
  have L_17 : ∀ (nf : Nat) (i : Nat) (M : zM), (101 ≤ i + nf) → (i ≤ 100) → (M = fillM (up (up (up G (8 + 8 * j) 1 0) (8 + 8 * j) 2 0) (8 + 8 * j) 9 0) (8 + 8 * j + 6) 0 i 0) →  ∀ (H : Heap) (locs : List Loc) (ls : Array Slot), Zs w dom A s.heap sz M H locs → lv_has ls 2 [(0, .ref (w.2.1 + (8 + 8 * j))), (1, .int (zI ((i : Int))))] → W p l e (headSpec wsX6_clear { frames := 2, cells := 0, slots := 0, locals := 43 }).room s m ([.ref (w.2.1 + (8 + 8 * j))] : List Value).toArray below meth c H locs (0) (0) (MQ below (zQv w dom sz (fun C => C = cClr G j) A) ([.ref (w.2.1 + (8 + 8 * j))] : List Value).toArray s (0) (0) A) (F0 m 17 ls []) := by
    intro nf
    induction nf with
    | zero => intro i  M  h17_0 h17_1 h17_2; exact absurd h17_0 (by omega)
    | succ nf ih_17 =>
      intro i  M  h17_0 h17_1 h17_2 H locs ls hZ hl
      refine z_iload_n F dX6_clear_17 rfl (lv_at hl 1 rfl) ?_
      refine z_aload_n F dX6_clear_18 rfl (lv_at hl 0 rfl) ?_
      refine z_get F hK hZ (8 + 8 * j) (hd _ (by omega)) (shp_seat j hj) (by decide) rfl hin6 13 (by decide) mX6_clear_28 rfl rfl dX6_clear_19 ?_
      refine z_alen F hK hZ (8 + 8 * j + 6) (hd _ (by omega)) (by decide) (shp_held j hj) dX6_clear_22 ?_
      refine z_icmp_ge (tgt := 39) F (by omega) (by omega) dX6_clear_23 (by decide) (fun c_23 => ?_) (fun c_23 => ?_)
      · skip
        refine z_aload_n F dX6_clear_39 rfl (lv_at hl 0 rfl) ?_
        refine z_get F hK hZ (8 + 8 * j) (hd _ (by omega)) (shp_seat j hj) (by decide) rfl hin6 12 (by decide) mX6_clear_24 rfl rfl dX6_clear_40 ?_
        refine z_bxv hZ (va_runV (As := []) (rest := []) F (w_X0_clear l w dom A hDA sz M j hj hd) (cwV 0 F.2.2.2.2 gX6_clear_X0_clear rfl rfl rfl (by decide +kernel) ⟨Nat.le_of_ble_eq_true rfl, Nat.le_of_ble_eq_true rfl⟩) (z_preV hK hZ (8 + 8 * j + 3) (hd _ (by omega)) (shp_chain j hj) (by decide) rfl _) rfl rfl hl.1 rfl (lv_room (Nat.le_of_ble_eq_true rfl)) dX6_clear_43 ⟨Nat.le_of_ble_eq_true rfl, Nat.le_of_ble_eq_true rfl⟩) (fun H locs hZ => ?_)
        refine z_aload_n F dX6_clear_46 rfl (lv_at hl 0 rfl) ?_
        refine z_bxv hZ (va_runV (As := []) (rest := []) F (w_X6_clearHeight l w dom A hDA sz (cChClr M j) j hj hd) (cwV 0 F.2.2.2.2 gX6_clear_X6_clearHeight rfl rfl rfl (by decide +kernel) ⟨Nat.le_of_ble_eq_true rfl, Nat.le_of_ble_eq_true rfl⟩) (z_preV hK hZ (8 + 8 * j) (hd _ (by omega)) (shp_seat j hj) (by decide) rfl _) rfl rfl hl.1 rfl (lv_room (Nat.le_of_ble_eq_true rfl)) dX6_clear_47 ⟨Nat.le_of_ble_eq_true rfl, Nat.le_of_ble_eq_true rfl⟩) (fun H locs hZ => ?_)
        exact z_vret F hr hlocks hZ (by rw [h17_2, show i = 100 by omega]; rfl) dX6_clear_50 (by omega) (by omega)
      · skip
        refine z_aload_n F dX6_clear_26 rfl (lv_at hl 0 rfl) ?_
        refine z_get F hK hZ (8 + 8 * j) (hd _ (by omega)) (shp_seat j hj) (by decide) rfl hin6 13 (by decide) mX6_clear_28 rfl rfl dX6_clear_27 ?_
        refine z_iload_n F dX6_clear_30 rfl (lv_at hl 1 rfl) ?_
        refine z_iconst F dX6_clear_31 ?_
        refine z_zast F hK hZ hDA (8 + 8 * j + 6) (hd _ (by omega)) (shp_held j hj) (by decide) (by omega) (by omega) (by omega) dX6_clear_32 (fun H locs hZ => ?_)
        refine z_iinc (k := 1) (z := (i : Int)) (lv' := [(1, .int (zI ((i : Int) + 1))), (0, .ref (w.2.1 + (8 + 8 * j)))]) F dX6_clear_33 hl rfl (by decide) rfl (fun ls hl => ?_)
        refine lv_goto (tgt := 17) F.1 F.2.1 dX6_clear_36 (by decide) ?_
        exact ih_17 (i + 1) (up M (8 + 8 * j + 6) ((i : Int)) (0)) (by omega) (by omega) (by rw [h17_2]; exact fillM_S _ _ _ _ _ _ (by omega)) _ _ _ hZ (lv_sub hl [1, 0] rfl)
  exact L_17 101 0 (up (up (up G (8 + 8 * j) (1) (0)) (8 + 8 * j) (2) (0)) (8 + 8 * j) (9) (0)) (by omega) (by omega) (fillM_0 _ _ _ _).symm _ _ _ hZ (lv_sub hl [1, 0] rfl)
