set_option maxHeartbeats 4000000 in
set_option maxRecDepth 100000 in
theorem k_J7_fill_53178 (l : Launch) (w : zW) (dom : Nat → Prop) (A : Nat → Prop) (hDA : ∀ i, dom i → A (w.2.1 + i)) (sz : Nat) (G : zM) (i len : Nat) (hi : dom i) (hs : shp i = (9, len)) (hlen : len ≤ 100) (v : Int) (hv : -2147483648 ≤ v ∧ v < 2147483648) : Met l yJ7_fill_53178 wsJ7_fill_53178 { frames := 0, cells := 0, slots := 0, locals := 0 } (zPre w dom sz G [.ref (w.2.1 + (i)), .int (zI (v))]) (zQv w dom sz (fun C => C = fillM G i 0 len v) A) (0) (0) A := by
  refine Met.ofW (cc := cJ7_fill_53178) (maxL := 4) (ret := none) (by decide) rfl ?_
  intro p e s m args below meth c s₁ B hml hv
  obtain ⟨rfl, hsz, hP, hK⟩ := hv
  have F : CallFix p m c cJ7_fill_53178 4 s _ wsJ7_fill_53178 RJ7 := ⟨B.exec, B.bytes, hml, findClass_of_methodNamed B.named, atoms_spec (ws := wsJ7_fill_53178) B.pre⟩
  have hr := B.returns
  have hlocks := B.notSynchronized
  have hZ : Zs w dom A s.heap sz G s.heap [] := ⟨hsz, hP, va_S.rf⟩
  have hl := lv_entry ([.ref (w.2.1 + (i)), .int (zI (v))]) (n := 4) (Nat.le_of_ble_eq_true rfl)
  rw [lg_entry_eq]
  generalize (lg_sl ([.ref (w.2.1 + (i)), .int (zI (v))]) ++ List.replicate (4 - (lg_sl ([.ref (w.2.1 + (i)), .int (zI (v))])).length) Slot.unset).toArray = ls at hl ⊢
  have hl : lv_has ls 4 [(0, .ref (w.2.1 + (i))), (1, .int (zI (v)))] := hl
  refine z_iconst F dJ7_fill_53178_0 ?_
  refine z_istore_n (lv' := [(2, .int (zI (0))), (0, .ref (w.2.1 + (i))), (1, .int (zI (v)))]) F dJ7_fill_53178_1 rfl hl (by decide) rfl (fun ls hl => ?_)
  refine z_aload_n F dJ7_fill_53178_2 rfl (lv_at hl 1 rfl) ?_
  refine z_alen F hK hZ (i) hi (by decide) hs dJ7_fill_53178_3 ?_
  refine z_istore_n (lv' := [(3, .int (zI (len))), (2, .int (zI (0))), (0, .ref (w.2.1 + (i))), (1, .int (zI (v)))]) F dJ7_fill_53178_4 rfl hl (by decide) rfl (fun ls hl => ?_)
  have L_5 : ∀ (nf : Nat) (j : Nat) (M : zM), (len + 1 ≤ j + nf) → (j ≤ len) → (M = fillM G i 0 j v) →  ∀ (H : Heap) (locs : List Loc) (ls : Array Slot), Zs w dom A s.heap sz M H locs → lv_has ls 4 [(0, .ref (w.2.1 + (i))), (1, .int (zI (v))), (2, .int (zI ((j : Int)))), (3, .int (zI ((len : Int))))] → W p l e (headSpec wsJ7_fill_53178 { frames := 0, cells := 0, slots := 0, locals := 0 }).room s m ([.ref (w.2.1 + (i)), .int (zI (v))] : List Value).toArray below meth c H locs (0) (0) (MQ below (zQv w dom sz (fun C => C = fillM G i 0 len v) A) ([.ref (w.2.1 + (i)), .int (zI (v))] : List Value).toArray s (0) (0) A) (F0 m 5 ls []) := by
    intro nf
    induction nf with
    | zero => intro j  M  h5_0 h5_1 h5_2; exact absurd h5_0 (by omega)
    | succ nf ih_5 =>
      intro j  M  h5_0 h5_1 h5_2 H locs ls hZ hl
      refine z_iload_n F dJ7_fill_53178_5 rfl (lv_at hl 2 rfl) ?_
      refine z_iload_n F dJ7_fill_53178_6 rfl (lv_at hl 3 rfl) ?_
      refine z_icmp_ge (tgt := 20) F (by omega) (by omega) dJ7_fill_53178_7 (by decide) (fun c_7 => ?_) (fun c_7 => ?_)
      · skip
        exact z_vret F hr hlocks hZ (by rw [h5_2, show j = len by omega]) dJ7_fill_53178_20 (by omega) (by omega)
      · skip
        refine z_aload_n F dJ7_fill_53178_10 rfl (lv_at hl 0 rfl) ?_
        refine z_iload_n F dJ7_fill_53178_11 rfl (lv_at hl 2 rfl) ?_
        refine z_iload_n F dJ7_fill_53178_12 rfl (lv_at hl 1 rfl) ?_
        refine z_iast F hK hZ hDA (i) hi hs (by omega) (by omega) (by omega) (by omega) dJ7_fill_53178_13 (fun H locs hZ => ?_)
        refine z_iinc (k := 2) (z := (j : Int)) (lv' := [(2, .int (zI ((j : Int) + 1))), (0, .ref (w.2.1 + (i))), (1, .int (zI (v))), (3, .int (zI ((len : Int))))]) F dJ7_fill_53178_14 hl rfl (by decide) rfl (fun ls hl => ?_)
        refine lv_goto (tgt := 5) F.1 F.2.1 dJ7_fill_53178_17 (by decide) ?_
        exact ih_5 (j + 1) (up M (i) ((j : Int)) (v)) (by omega) (by omega) (by rw [h5_2]; exact fillM_S _ _ _ _ _ _ (by omega)) _ _ _ hZ (lv_sub hl [1, 2, 0, 3] rfl)
  exact L_5 (len + 1) 0 G (by omega) (by omega) (fillM_0 _ _ _ _).symm _ _ _ hZ (lv_sub hl [2, 3, 1, 0] rfl)

set_option maxHeartbeats 4000000 in
set_option maxRecDepth 100000 in
theorem k_J6_bitCount_0f7a4 (l : Launch) (w : zW) (dom : Nat → Prop) (A : Nat → Prop) (hDA : ∀ i, dom i → A (w.2.1 + i)) (sz : Nat) (G : zM) (z : Int) (hz : 0 ≤ z ∧ z < 128) : Met l yJ6_bitCount_0f7a4 wsJ6_bitCount_0f7a4 { frames := 0, cells := 0, slots := 0, locals := 0 } (zPre w dom sz G [.int (zI (z))]) (zQi w dom sz (popZ z) (fun C => C = G) A) (0) (0) A := by
  refine Met.ofW (cc := cJ6_bitCount_0f7a4) (maxL := 1) (ret := (some .int)) (by decide) rfl ?_
  intro p e s m args below meth c s₁ B hml hv
  obtain ⟨rfl, hsz, hP, hK⟩ := hv
  have F : CallFix p m c cJ6_bitCount_0f7a4 1 s _ wsJ6_bitCount_0f7a4 RJ6 := ⟨B.exec, B.bytes, hml, findClass_of_methodNamed B.named, atoms_spec (ws := wsJ6_bitCount_0f7a4) B.pre⟩
  have hr := B.returns
  have hlocks := B.notSynchronized
  have hZ : Zs w dom A s.heap sz G s.heap [] := ⟨hsz, hP, va_S.rf⟩
  have hl := lv_entry ([.int (zI (z))]) (n := 1) (Nat.le_of_ble_eq_true rfl)
  rw [lg_entry_eq]
  generalize (lg_sl ([.int (zI (z))]) ++ List.replicate (1 - (lg_sl ([.int (zI (z))])).length) Slot.unset).toArray = ls at hl ⊢
  have hl : lv_has ls 1 [(0, .int (zI (z)))] := hl
  refine z_iload_n F dJ6_bitCount_0f7a4_0 rfl (lv_at hl 0 rfl) ?_
  refine z_iload_n F dJ6_bitCount_0f7a4_1 rfl (lv_at hl 0 rfl) ?_
  refine z_iconst F dJ6_bitCount_0f7a4_2 ?_
  refine z_iushr F dJ6_bitCount_0f7a4_3 ?_
  refine z_ldcw F (v := 1431655765) 1431655765 (by decide) (by decide +kernel) dJ6_bitCount_0f7a4_4 ?_
  refine z_iand F dJ6_bitCount_0f7a4_7 ?_
  refine z_isub F dJ6_bitCount_0f7a4_8 ?_
  refine z_istore_n (lv' := [(0, .int (zI (z - (bAnd (bUsr z 1) 1431655765))))]) F dJ6_bitCount_0f7a4_9 rfl hl (by decide) rfl (fun ls hl => ?_)
  refine z_iload_n F dJ6_bitCount_0f7a4_10 rfl (lv_at hl 0 rfl) ?_
  refine z_ldcw F (v := 858993459) 858993459 (by decide) (by decide +kernel) dJ6_bitCount_0f7a4_11 ?_
  refine z_iand F dJ6_bitCount_0f7a4_14 ?_
  refine z_iload_n F dJ6_bitCount_0f7a4_15 rfl (lv_at hl 0 rfl) ?_
  refine z_iconst F dJ6_bitCount_0f7a4_16 ?_
  refine z_iushr F dJ6_bitCount_0f7a4_17 ?_
  refine z_ldcw F (v := 858993459) 858993459 (by decide) (by decide +kernel) dJ6_bitCount_0f7a4_18 ?_
  refine z_iand F dJ6_bitCount_0f7a4_21 ?_
  refine z_iadd F dJ6_bitCount_0f7a4_22 ?_
  refine z_istore_n (lv' := [(0, .int (zI (bAnd (z - (bAnd (bUsr z 1) 1431655765)) 858993459 + (bAnd (bUsr (z - (bAnd (bUsr z 1) 1431655765)) 2) 858993459))))]) F dJ6_bitCount_0f7a4_23 rfl hl (by decide) rfl (fun ls hl => ?_)
  refine z_iload_n F dJ6_bitCount_0f7a4_24 rfl (lv_at hl 0 rfl) ?_
  refine z_iload_n F dJ6_bitCount_0f7a4_25 rfl (lv_at hl 0 rfl) ?_
  refine z_iconst F dJ6_bitCount_0f7a4_26 ?_
  refine z_iushr F dJ6_bitCount_0f7a4_27 ?_
  refine z_iadd F dJ6_bitCount_0f7a4_28 ?_
  refine z_ldcw F (v := 252645135) 252645135 (by decide) (by decide +kernel) dJ6_bitCount_0f7a4_29 ?_
  refine z_iand F dJ6_bitCount_0f7a4_32 ?_
  refine z_istore_n (lv' := [(0, .int (zI (bAnd (bAnd (z - (bAnd (bUsr z 1) 1431655765)) 858993459 + (bAnd (bUsr (z - (bAnd (bUsr z 1) 1431655765)) 2) 858993459) + (bUsr (bAnd (z - (bAnd (bUsr z 1) 1431655765)) 858993459 + (bAnd (bUsr (z - (bAnd (bUsr z 1) 1431655765)) 2) 858993459)) 4)) 252645135)))]) F dJ6_bitCount_0f7a4_33 rfl hl (by decide) rfl (fun ls hl => ?_)
  refine z_iload_n F dJ6_bitCount_0f7a4_34 rfl (lv_at hl 0 rfl) ?_
  refine z_iload_n F dJ6_bitCount_0f7a4_35 rfl (lv_at hl 0 rfl) ?_
  refine z_bipush F (by decide) dJ6_bitCount_0f7a4_36 ?_
  refine z_iushr F dJ6_bitCount_0f7a4_38 ?_
  refine z_iadd F dJ6_bitCount_0f7a4_39 ?_
  refine z_istore_n (lv' := [(0, .int (zI (bAnd (bAnd (z - (bAnd (bUsr z 1) 1431655765)) 858993459 + (bAnd (bUsr (z - (bAnd (bUsr z 1) 1431655765)) 2) 858993459) + (bUsr (bAnd (z - (bAnd (bUsr z 1) 1431655765)) 858993459 + (bAnd (bUsr (z - (bAnd (bUsr z 1) 1431655765)) 2) 858993459)) 4)) 252645135 + (bUsr (bAnd (bAnd (z - (bAnd (bUsr z 1) 1431655765)) 858993459 + (bAnd (bUsr (z - (bAnd (bUsr z 1) 1431655765)) 2) 858993459) + (bUsr (bAnd (z - (bAnd (bUsr z 1) 1431655765)) 858993459 + (bAnd (bUsr (z - (bAnd (bUsr z 1) 1431655765)) 2) 858993459)) 4)) 252645135) 8))))]) F dJ6_bitCount_0f7a4_40 rfl hl (by decide) rfl (fun ls hl => ?_)
  refine z_iload_n F dJ6_bitCount_0f7a4_41 rfl (lv_at hl 0 rfl) ?_
  refine z_iload_n F dJ6_bitCount_0f7a4_42 rfl (lv_at hl 0 rfl) ?_
  refine z_bipush F (by decide) dJ6_bitCount_0f7a4_43 ?_
  refine z_iushr F dJ6_bitCount_0f7a4_45 ?_
  refine z_iadd F dJ6_bitCount_0f7a4_46 ?_
  refine z_istore_n (lv' := [(0, .int (zI (bAnd (bAnd (z - (bAnd (bUsr z 1) 1431655765)) 858993459 + (bAnd (bUsr (z - (bAnd (bUsr z 1) 1431655765)) 2) 858993459) + (bUsr (bAnd (z - (bAnd (bUsr z 1) 1431655765)) 858993459 + (bAnd (bUsr (z - (bAnd (bUsr z 1) 1431655765)) 2) 858993459)) 4)) 252645135 + (bUsr (bAnd (bAnd (z - (bAnd (bUsr z 1) 1431655765)) 858993459 + (bAnd (bUsr (z - (bAnd (bUsr z 1) 1431655765)) 2) 858993459) + (bUsr (bAnd (z - (bAnd (bUsr z 1) 1431655765)) 858993459 + (bAnd (bUsr (z - (bAnd (bUsr z 1) 1431655765)) 2) 858993459)) 4)) 252645135) 8) + (bUsr (bAnd (bAnd (z - (bAnd (bUsr z 1) 1431655765)) 858993459 + (bAnd (bUsr (z - (bAnd (bUsr z 1) 1431655765)) 2) 858993459) + (bUsr (bAnd (z - (bAnd (bUsr z 1) 1431655765)) 858993459 + (bAnd (bUsr (z - (bAnd (bUsr z 1) 1431655765)) 2) 858993459)) 4)) 252645135 + (bUsr (bAnd (bAnd (z - (bAnd (bUsr z 1) 1431655765)) 858993459 + (bAnd (bUsr (z - (bAnd (bUsr z 1) 1431655765)) 2) 858993459) + (bUsr (bAnd (z - (bAnd (bUsr z 1) 1431655765)) 858993459 + (bAnd (bUsr (z - (bAnd (bUsr z 1) 1431655765)) 2) 858993459)) 4)) 252645135) 8)) 16))))]) F dJ6_bitCount_0f7a4_47 rfl hl (by decide) rfl (fun ls hl => ?_)
  refine z_iload_n F dJ6_bitCount_0f7a4_48 rfl (lv_at hl 0 rfl) ?_
  refine z_bipush F (by decide) dJ6_bitCount_0f7a4_49 ?_
  refine z_iand F dJ6_bitCount_0f7a4_51 ?_
  exact z_iret F hr hlocks hZ (bcZ_ok hz) rfl dJ6_bitCount_0f7a4_52 (by omega) (by omega)

theorem mX0_clear_9 : Cond.fieldLink RX0 9 "LockedChain$Chain" "values" "[I" ∈ wsX0_clear := by decide +kernel
theorem mX0_clear_15 : Cond.fieldLink RX0 15 "LockedChain$Chain" "rounds" "[I" ∈ wsX0_clear := by decide +kernel
set_option maxHeartbeats 4000000 in
set_option maxRecDepth 100000 in
theorem k_X0_clear (l : Launch) (w : zW) (dom : Nat → Prop) (A : Nat → Prop) (hDA : ∀ i, dom i → A (w.2.1 + i)) (sz : Nat) (G : zM) (hd : ∀ i, i < 64 → dom i) (j : Nat) (hj : j < 7) : Met l yX0_clear wsX0_clear { frames := 1, cells := 0, slots := 0, locals := 23 } (zPre w dom sz G [.ref (w.2.1 + (8 + 8 * j + 3))]) (zQv w dom sz (fun C => C = cChClr G j) A) (0) (0) A := by
  refine Met.ofW (cc := cX0_clear) (maxL := 1) (ret := none) (by decide) rfl ?_
  intro p e s m args below meth c s₁ B hml hv
  obtain ⟨rfl, hsz, hP, hK⟩ := hv
  have F : CallFix p m c cX0_clear 1 s _ wsX0_clear RX0 := ⟨B.exec, B.bytes, hml, findClass_of_methodNamed B.named, atoms_spec (ws := wsX0_clear) B.pre⟩
  have hr := B.returns
  have hlocks := B.notSynchronized
  have hZ : Zs w dom A s.heap sz G s.heap [] := ⟨hsz, hP, va_S.rf⟩
  have hl := lv_entry ([.ref (w.2.1 + (8 + 8 * j + 3))]) (n := 1) (Nat.le_of_ble_eq_true rfl)
  rw [lg_entry_eq]
  generalize (lg_sl ([.ref (w.2.1 + (8 + 8 * j + 3))]) ++ List.replicate (1 - (lg_sl ([.ref (w.2.1 + (8 + 8 * j + 3))])).length) Slot.unset).toArray = ls at hl ⊢
  have hl : lv_has ls 1 [(0, .ref (w.2.1 + (8 + 8 * j + 3)))] := hl
  have hin0 : ∀ v ∈ u_ws RX0 TX0 2, v ∈ wsX0_clear := by decide +kernel
  refine z_aload_n F dX0_clear_0 rfl (lv_at hl 0 rfl) ?_
  refine z_get F hK hZ (8 + 8 * j + 3) (hd _ (by omega)) (shp_chain j hj) (by decide) rfl hin0 0 (by decide) mX0_clear_9 rfl rfl dX0_clear_1 ?_
  refine z_bipush F (by decide) dX0_clear_4 ?_
  refine z_bxv hZ (va_runS (As := [.ref (w.2.1 + (8 + 8 * j + 4)), .int (zI (-4))]) (rest := []) F (k_J7_fill_53178 l w dom A hDA sz G (8 + 8 * j + 4) 6 (hd _ (by omega)) (shp_vals j hj) (by decide) (-4) (by omega)) (va_cwS 2 F.2.2.2.2 gX0_clear_J7_fill_53178 rfl rfl rfl (by decide +kernel) ⟨Nat.le_of_ble_eq_true rfl, Nat.le_of_ble_eq_true rfl⟩) (z_preS hK hZ _) rfl rfl hl.1 rfl (lv_room (Nat.le_of_ble_eq_true rfl)) dX0_clear_6 ⟨Nat.le_of_ble_eq_true rfl, Nat.le_of_ble_eq_true rfl⟩) (fun H locs hZ => ?_)
  refine z_aload_n F dX0_clear_9 rfl (lv_at hl 0 rfl) ?_
  refine z_get F hK hZ (8 + 8 * j + 3) (hd _ (by omega)) (shp_chain j hj) (by decide) rfl hin0 1 (by decide) mX0_clear_15 rfl rfl dX0_clear_10 ?_
  refine z_bipush F (by decide) dX0_clear_13 ?_
  refine z_bxv hZ (va_runS (As := [.ref (w.2.1 + (8 + 8 * j + 5)), .int (zI (-4))]) (rest := []) F (k_J7_fill_53178 l w dom A hDA sz (fillM G (8 + 8 * j + 4) 0 6 (-4)) (8 + 8 * j + 5) 6 (hd _ (by omega)) (shp_rnds j hj) (by decide) (-4) (by omega)) (va_cwS 2 F.2.2.2.2 gX0_clear_J7_fill_53178 rfl rfl rfl (by decide +kernel) ⟨Nat.le_of_ble_eq_true rfl, Nat.le_of_ble_eq_true rfl⟩) (z_preS hK hZ _) rfl rfl hl.1 rfl (lv_room (Nat.le_of_ble_eq_true rfl)) dX0_clear_15 ⟨Nat.le_of_ble_eq_true rfl, Nat.le_of_ble_eq_true rfl⟩) (fun H locs hZ => ?_)
  exact z_vret F hr hlocks hZ rfl dX0_clear_18 (by omega) (by omega)

theorem mX0_add_9 : Cond.fieldLink RX0 9 "LockedChain$Chain" "values" "[I" ∈ wsX0_add := by decide +kernel
theorem mX0_add_15 : Cond.fieldLink RX0 15 "LockedChain$Chain" "rounds" "[I" ∈ wsX0_add := by decide +kernel
set_option maxHeartbeats 4000000 in
set_option maxRecDepth 100000 in
theorem k_X0_add (l : Launch) (w : zW) (dom : Nat → Prop) (A : Nat → Prop) (hDA : ∀ i, dom i → A (w.2.1 + i)) (sz : Nat) (G : zM) (hd : ∀ i, i < 64 → dom i) (j : Nat) (hj : j < 7) (h v r : Int) (hh : 0 ≤ h ∧ h < 6) (hv : -2147483648 ≤ v ∧ v < 2147483648) (hr : -2147483648 ≤ r ∧ r < 2147483648) : Met l yX0_add wsX0_add { frames := 0, cells := 0, slots := 0, locals := 0 } (zPre w dom sz G [.ref (w.2.1 + (8 + 8 * j + 3)), .int (zI (h)), .int (zI (v)), .int (zI (r))]) (zQv w dom sz (fun C => C = cAdd G j h v r) A) (0) (0) A := by
  refine Met.ofW (cc := cX0_add) (maxL := 4) (ret := none) (by decide) rfl ?_
  intro p e s m args below meth c s₁ B hml hv
  obtain ⟨rfl, hsz, hP, hK⟩ := hv
  have F : CallFix p m c cX0_add 4 s _ wsX0_add RX0 := ⟨B.exec, B.bytes, hml, findClass_of_methodNamed B.named, atoms_spec (ws := wsX0_add) B.pre⟩
  have hr := B.returns
  have hlocks := B.notSynchronized
  have hZ : Zs w dom A s.heap sz G s.heap [] := ⟨hsz, hP, va_S.rf⟩
  have hl := lv_entry ([.ref (w.2.1 + (8 + 8 * j + 3)), .int (zI (h)), .int (zI (v)), .int (zI (r))]) (n := 4) (Nat.le_of_ble_eq_true rfl)
  rw [lg_entry_eq]
  generalize (lg_sl ([.ref (w.2.1 + (8 + 8 * j + 3)), .int (zI (h)), .int (zI (v)), .int (zI (r))]) ++ List.replicate (4 - (lg_sl ([.ref (w.2.1 + (8 + 8 * j + 3)), .int (zI (h)), .int (zI (v)), .int (zI (r))])).length) Slot.unset).toArray = ls at hl ⊢
  have hl : lv_has ls 4 [(0, .ref (w.2.1 + (8 + 8 * j + 3))), (1, .int (zI (h))), (2, .int (zI (v))), (3, .int (zI (r)))] := hl
  have hin0 : ∀ v ∈ u_ws RX0 TX0 2, v ∈ wsX0_add := by decide +kernel
  refine z_iload_n F dX0_add_0 rfl (lv_at hl 1 rfl) ?_
  refine z_if_lt (tgt := 36) F (by omega) dX0_add_1 (by decide) (fun c_1 => ?_) (fun c_1 => ?_)
  · skip
    exact z_vret F hr hlocks hZ (by first | rfl | (exfalso; omega)) dX0_add_36 (by omega) (by omega)
  · skip
    refine z_iload_n F dX0_add_4 rfl (lv_at hl 1 rfl) ?_
    refine z_aload_n F dX0_add_5 rfl (lv_at hl 0 rfl) ?_
    refine z_get F hK hZ (8 + 8 * j + 3) (hd _ (by omega)) (shp_chain j hj) (by decide) rfl hin0 0 (by decide) mX0_add_9 rfl rfl dX0_add_6 ?_
    refine z_alen F hK hZ (8 + 8 * j + 4) (hd _ (by omega)) (by decide) (shp_vals j hj) dX0_add_9 ?_
    refine z_icmp_ge (tgt := 36) F (by omega) (by omega) dX0_add_10 (by decide) (fun c_10 => ?_) (fun c_10 => ?_)
    · skip
      exact z_vret F hr hlocks hZ (by first | rfl | (exfalso; omega)) dX0_add_36 (by omega) (by omega)
    · skip
      refine z_iload_n F dX0_add_13 rfl (lv_at hl 1 rfl) ?_
      refine z_aload_n F dX0_add_14 rfl (lv_at hl 0 rfl) ?_
      refine z_get F hK hZ (8 + 8 * j + 3) (hd _ (by omega)) (shp_chain j hj) (by decide) rfl hin0 1 (by decide) mX0_add_15 rfl rfl dX0_add_15 ?_
      refine z_alen F hK hZ (8 + 8 * j + 5) (hd _ (by omega)) (by decide) (shp_rnds j hj) dX0_add_18 ?_
      refine z_icmp_ge (tgt := 36) F (by omega) (by omega) dX0_add_19 (by decide) (fun c_19 => ?_) (fun c_19 => ?_)
      · skip
        exact z_vret F hr hlocks hZ (by first | rfl | (exfalso; omega)) dX0_add_36 (by omega) (by omega)
      · skip
        refine z_aload_n F dX0_add_22 rfl (lv_at hl 0 rfl) ?_
        refine z_get F hK hZ (8 + 8 * j + 3) (hd _ (by omega)) (shp_chain j hj) (by decide) rfl hin0 0 (by decide) mX0_add_9 rfl rfl dX0_add_23 ?_
        refine z_iload_n F dX0_add_26 rfl (lv_at hl 1 rfl) ?_
        refine z_iload_n F dX0_add_27 rfl (lv_at hl 2 rfl) ?_
        refine z_iast F hK hZ hDA (8 + 8 * j + 4) (hd _ (by omega)) (shp_vals j hj) (by decide) (by omega) (by omega) (by omega) dX0_add_28 (fun H locs hZ => ?_)
        refine z_aload_n F dX0_add_29 rfl (lv_at hl 0 rfl) ?_
        refine z_get F hK hZ (8 + 8 * j + 3) (hd _ (by omega)) (shp_chain j hj) (by decide) rfl hin0 1 (by decide) mX0_add_15 rfl rfl dX0_add_30 ?_
        refine z_iload_n F dX0_add_33 rfl (lv_at hl 1 rfl) ?_
        refine z_iload_n F dX0_add_34 rfl (lv_at hl 3 rfl) ?_
        refine z_iast F hK hZ hDA (8 + 8 * j + 5) (hd _ (by omega)) (shp_rnds j hj) (by decide) (by omega) (by omega) (by omega) dX0_add_35 (fun H locs hZ => ?_)
        exact z_vret F hr hlocks hZ (by first | rfl | (exfalso; omega)) dX0_add_36 (by omega) (by omega)

theorem mX0_valueAt_9 : Cond.fieldLink RX0 9 "LockedChain$Chain" "values" "[I" ∈ wsX0_valueAt := by decide +kernel
set_option maxHeartbeats 4000000 in
set_option maxRecDepth 100000 in
theorem k_X0_valueAt (l : Launch) (w : zW) (dom : Nat → Prop) (A : Nat → Prop) (hDA : ∀ i, dom i → A (w.2.1 + i)) (sz : Nat) (G : zM) (hd : ∀ i, i < 64 → dom i) (j : Nat) (hj : j < 7) (h : Int) (hh : 0 ≤ h ∧ h < 6) : Met l yX0_valueAt wsX0_valueAt { frames := 0, cells := 0, slots := 0, locals := 0 } (zPre w dom sz G [.ref (w.2.1 + (8 + 8 * j + 3)), .int (zI (h))]) (zQi w dom sz (G (8 + 8 * j + 4) h) (fun C => C = G) A) (0) (0) A := by
  refine Met.ofW (cc := cX0_valueAt) (maxL := 2) (ret := (some .int)) (by decide) rfl ?_
  intro p e s m args below meth c s₁ B hml hv
  obtain ⟨rfl, hsz, hP, hK⟩ := hv
  have F : CallFix p m c cX0_valueAt 2 s _ wsX0_valueAt RX0 := ⟨B.exec, B.bytes, hml, findClass_of_methodNamed B.named, atoms_spec (ws := wsX0_valueAt) B.pre⟩
  have hr := B.returns
  have hlocks := B.notSynchronized
  have hZ : Zs w dom A s.heap sz G s.heap [] := ⟨hsz, hP, va_S.rf⟩
  have hl := lv_entry ([.ref (w.2.1 + (8 + 8 * j + 3)), .int (zI (h))]) (n := 2) (Nat.le_of_ble_eq_true rfl)
  rw [lg_entry_eq]
  generalize (lg_sl ([.ref (w.2.1 + (8 + 8 * j + 3)), .int (zI (h))]) ++ List.replicate (2 - (lg_sl ([.ref (w.2.1 + (8 + 8 * j + 3)), .int (zI (h))])).length) Slot.unset).toArray = ls at hl ⊢
  have hl : lv_has ls 2 [(0, .ref (w.2.1 + (8 + 8 * j + 3))), (1, .int (zI (h)))] := hl
  have hin0 : ∀ v ∈ u_ws RX0 TX0 2, v ∈ wsX0_valueAt := by decide +kernel
  refine z_iload_n F dX0_valueAt_0 rfl (lv_at hl 1 rfl) ?_
  refine z_if_lt (tgt := 22) F (by omega) dX0_valueAt_1 (by decide) (fun c_1 => ?_) (fun c_1 => ?_)
  · skip
    refine z_bipush F (by decide) dX0_valueAt_22 ?_
    exact z_iret F hr hlocks hZ (by first | rfl | (exfalso; omega)) rfl dX0_valueAt_24 (by omega) (by omega)
  · skip
    refine z_iload_n F dX0_valueAt_4 rfl (lv_at hl 1 rfl) ?_
    refine z_aload_n F dX0_valueAt_5 rfl (lv_at hl 0 rfl) ?_
    refine z_get F hK hZ (8 + 8 * j + 3) (hd _ (by omega)) (shp_chain j hj) (by decide) rfl hin0 0 (by decide) mX0_valueAt_9 rfl rfl dX0_valueAt_6 ?_
    refine z_alen F hK hZ (8 + 8 * j + 4) (hd _ (by omega)) (by decide) (shp_vals j hj) dX0_valueAt_9 ?_
    refine z_icmp_ge (tgt := 22) F (by omega) (by omega) dX0_valueAt_10 (by decide) (fun c_10 => ?_) (fun c_10 => ?_)
    · skip
      refine z_bipush F (by decide) dX0_valueAt_22 ?_
      exact z_iret F hr hlocks hZ (by first | rfl | (exfalso; omega)) rfl dX0_valueAt_24 (by omega) (by omega)
    · skip
      refine z_aload_n F dX0_valueAt_13 rfl (lv_at hl 0 rfl) ?_
      refine z_get F hK hZ (8 + 8 * j + 3) (hd _ (by omega)) (shp_chain j hj) (by decide) rfl hin0 0 (by decide) mX0_valueAt_9 rfl rfl dX0_valueAt_14 ?_
      refine z_iload_n F dX0_valueAt_17 rfl (lv_at hl 1 rfl) ?_
      refine z_iald F hK hZ (8 + 8 * j + 4) (hd _ (by omega)) (shp_vals j hj) (by decide) (by omega) (by omega) dX0_valueAt_18 ?_
      have r_1 := hZ.2.1.1 (8 + 8 * j + 4) (h)
      refine lv_goto (tgt := 24) F.1 F.2.1 dX0_valueAt_19 (by decide) ?_
      exact z_iret F hr hlocks hZ (by first | rfl | (exfalso; omega)) rfl dX0_valueAt_24 (by omega) (by omega)

theorem mX0_roundAt_15 : Cond.fieldLink RX0 15 "LockedChain$Chain" "rounds" "[I" ∈ wsX0_roundAt := by decide +kernel
set_option maxHeartbeats 4000000 in
set_option maxRecDepth 100000 in
theorem k_X0_roundAt (l : Launch) (w : zW) (dom : Nat → Prop) (A : Nat → Prop) (hDA : ∀ i, dom i → A (w.2.1 + i)) (sz : Nat) (G : zM) (hd : ∀ i, i < 64 → dom i) (j : Nat) (hj : j < 7) (h : Int) (hh : 0 ≤ h ∧ h < 6) : Met l yX0_roundAt wsX0_roundAt { frames := 0, cells := 0, slots := 0, locals := 0 } (zPre w dom sz G [.ref (w.2.1 + (8 + 8 * j + 3)), .int (zI (h))]) (zQi w dom sz (G (8 + 8 * j + 5) h) (fun C => C = G) A) (0) (0) A := by
  refine Met.ofW (cc := cX0_roundAt) (maxL := 2) (ret := (some .int)) (by decide) rfl ?_
  intro p e s m args below meth c s₁ B hml hv
  obtain ⟨rfl, hsz, hP, hK⟩ := hv
  have F : CallFix p m c cX0_roundAt 2 s _ wsX0_roundAt RX0 := ⟨B.exec, B.bytes, hml, findClass_of_methodNamed B.named, atoms_spec (ws := wsX0_roundAt) B.pre⟩
  have hr := B.returns
  have hlocks := B.notSynchronized
  have hZ : Zs w dom A s.heap sz G s.heap [] := ⟨hsz, hP, va_S.rf⟩
  have hl := lv_entry ([.ref (w.2.1 + (8 + 8 * j + 3)), .int (zI (h))]) (n := 2) (Nat.le_of_ble_eq_true rfl)
  rw [lg_entry_eq]
  generalize (lg_sl ([.ref (w.2.1 + (8 + 8 * j + 3)), .int (zI (h))]) ++ List.replicate (2 - (lg_sl ([.ref (w.2.1 + (8 + 8 * j + 3)), .int (zI (h))])).length) Slot.unset).toArray = ls at hl ⊢
  have hl : lv_has ls 2 [(0, .ref (w.2.1 + (8 + 8 * j + 3))), (1, .int (zI (h)))] := hl
  have hin0 : ∀ v ∈ u_ws RX0 TX0 2, v ∈ wsX0_roundAt := by decide +kernel
  refine z_iload_n F dX0_roundAt_0 rfl (lv_at hl 1 rfl) ?_
  refine z_if_lt (tgt := 22) F (by omega) dX0_roundAt_1 (by decide) (fun c_1 => ?_) (fun c_1 => ?_)
  · skip
    refine z_bipush F (by decide) dX0_roundAt_22 ?_
    exact z_iret F hr hlocks hZ (by first | rfl | (exfalso; omega)) rfl dX0_roundAt_24 (by omega) (by omega)
  · skip
    refine z_iload_n F dX0_roundAt_4 rfl (lv_at hl 1 rfl) ?_
    refine z_aload_n F dX0_roundAt_5 rfl (lv_at hl 0 rfl) ?_
    refine z_get F hK hZ (8 + 8 * j + 3) (hd _ (by omega)) (shp_chain j hj) (by decide) rfl hin0 1 (by decide) mX0_roundAt_15 rfl rfl dX0_roundAt_6 ?_
    refine z_alen F hK hZ (8 + 8 * j + 5) (hd _ (by omega)) (by decide) (shp_rnds j hj) dX0_roundAt_9 ?_
    refine z_icmp_ge (tgt := 22) F (by omega) (by omega) dX0_roundAt_10 (by decide) (fun c_10 => ?_) (fun c_10 => ?_)
    · skip
      refine z_bipush F (by decide) dX0_roundAt_22 ?_
      exact z_iret F hr hlocks hZ (by first | rfl | (exfalso; omega)) rfl dX0_roundAt_24 (by omega) (by omega)
    · skip
      refine z_aload_n F dX0_roundAt_13 rfl (lv_at hl 0 rfl) ?_
      refine z_get F hK hZ (8 + 8 * j + 3) (hd _ (by omega)) (shp_chain j hj) (by decide) rfl hin0 1 (by decide) mX0_roundAt_15 rfl rfl dX0_roundAt_14 ?_
      refine z_iload_n F dX0_roundAt_17 rfl (lv_at hl 1 rfl) ?_
      refine z_iald F hK hZ (8 + 8 * j + 5) (hd _ (by omega)) (shp_rnds j hj) (by decide) (by omega) (by omega) dX0_roundAt_18 ?_
      have r_1 := hZ.2.1.1 (8 + 8 * j + 5) (h)
      refine lv_goto (tgt := 24) F.1 F.2.1 dX0_roundAt_19 (by decide) ?_
      exact z_iret F hr hlocks hZ (by first | rfl | (exfalso; omega)) rfl dX0_roundAt_24 (by omega) (by omega)

theorem mX0_linkAt_9 : Cond.fieldLink RX0 9 "LockedChain$Chain" "values" "[I" ∈ wsX0_linkAt := by decide +kernel
set_option maxHeartbeats 4000000 in
set_option maxRecDepth 100000 in
theorem k_X0_linkAt (l : Launch) (w : zW) (dom : Nat → Prop) (A : Nat → Prop) (hDA : ∀ i, dom i → A (w.2.1 + i)) (sz : Nat) (G : zM) (hd : ∀ i, i < 64 → dom i) (j : Nat) (hj : j < 7) (h : Int) (hh : 0 ≤ h ∧ h < 6) : Met l yX0_linkAt wsX0_linkAt { frames := 1, cells := 0, slots := 0, locals := 21 } (zPre w dom sz G [.ref (w.2.1 + (8 + 8 * j + 3)), .int (zI (h))]) (zQi w dom sz (cLink G j h) (fun C => C = G) A) (0) (0) A := by
  refine Met.ofW (cc := cX0_linkAt) (maxL := 5) (ret := (some .int)) (by decide) rfl ?_
  intro p e s m args below meth c s₁ B hml hv
  obtain ⟨rfl, hsz, hP, hK⟩ := hv
  have F : CallFix p m c cX0_linkAt 5 s _ wsX0_linkAt RX0 := ⟨B.exec, B.bytes, hml, findClass_of_methodNamed B.named, atoms_spec (ws := wsX0_linkAt) B.pre⟩
  have hr := B.returns
  have hlocks := B.notSynchronized
  have hZ : Zs w dom A s.heap sz G s.heap [] := ⟨hsz, hP, va_S.rf⟩
  have hl := lv_entry ([.ref (w.2.1 + (8 + 8 * j + 3)), .int (zI (h))]) (n := 5) (Nat.le_of_ble_eq_true rfl)
  rw [lg_entry_eq]
  generalize (lg_sl ([.ref (w.2.1 + (8 + 8 * j + 3)), .int (zI (h))]) ++ List.replicate (5 - (lg_sl ([.ref (w.2.1 + (8 + 8 * j + 3)), .int (zI (h))])).length) Slot.unset).toArray = ls at hl ⊢
  have hl : lv_has ls 5 [(0, .ref (w.2.1 + (8 + 8 * j + 3))), (1, .int (zI (h)))] := hl
  have hin0 : ∀ v ∈ u_ws RX0 TX0 2, v ∈ wsX0_linkAt := by decide +kernel
  refine z_aload_n F dX0_linkAt_0 rfl (lv_at hl 0 rfl) ?_
  refine z_iload_n F dX0_linkAt_1 rfl (lv_at hl 1 rfl) ?_
  refine z_bxi hZ (va_runV (As := [.int (zI (h))]) (rest := []) F (k_X0_valueAt l w dom A hDA sz G hd j hj h (by omega)) (cwV 1 F.2.2.2.2 gX0_linkAt_X0_valueAt rfl rfl rfl (by decide +kernel) ⟨Nat.le_of_ble_eq_true rfl, Nat.le_of_ble_eq_true rfl⟩) (z_preV hK hZ (8 + 8 * j + 3) (hd _ (by omega)) (shp_chain j hj) (by decide) rfl _) rfl rfl hl.1 rfl (lv_room (Nat.le_of_ble_eq_true rfl)) dX0_linkAt_2 ⟨Nat.le_of_ble_eq_true rfl, Nat.le_of_ble_eq_true rfl⟩) (fun H locs hZ => ?_)
  have r_1 := hZ.2.1.1 (8 + 8 * j + 4) h
  refine z_bipush F (by decide) dX0_linkAt_5 ?_
  refine z_icmp_ne (tgt := 13) F (by omega) (by omega) dX0_linkAt_7 (by decide) (fun c_7 => ?_) (fun c_7 => ?_)
  · skip
    refine lv_ldc2 F.1 F.2.1 F.2.2.2.1 (F.2.2.2.2 (.constantLong RX0 28 (7)) (by decide +kernel)) dX0_linkAt_13 ?_
    refine z_lstore_n (lv' := [(2, .long ((7 : Int64))), (0, .ref (w.2.1 + (8 + 8 * j + 3))), (1, .int (zI (h)))]) F dX0_linkAt_16 rfl hl (by decide) rfl (fun ls hl => ?_)
    refine z_iconst F dX0_linkAt_17 ?_
    refine z_istore (lv' := [(4, .int (zI (0))), (2, .long ((7 : Int64))), (0, .ref (w.2.1 + (8 + 8 * j + 3))), (1, .int (zI (h)))]) F dX0_linkAt_18 hl (by decide) rfl (fun ls hl => ?_)
    have L_20 : ∀ (nf : Nat) (i : Nat) (a : Int64), (h.toNat + 2 ≤ i + nf) → (i ≤ h.toNat + 1) → (a = lnkF (fun k => G (8 + 8 * j + 4) (k : Int)) i) →  ∀ (H : Heap) (locs : List Loc) (ls : Array Slot), Zs w dom A s.heap sz G H locs → lv_has ls 5 [(0, .ref (w.2.1 + (8 + 8 * j + 3))), (1, .int (zI (h))), (2, .long (a)), (4, .int (zI ((i : Int))))] → W p l e (headSpec wsX0_linkAt { frames := 1, cells := 0, slots := 0, locals := 21 }).room s m ([.ref (w.2.1 + (8 + 8 * j + 3)), .int (zI (h))] : List Value).toArray below meth c H locs (0 + 0) (0 + 0) (MQ below (zQi w dom sz (cLink G j h) (fun C => C = G) A) ([.ref (w.2.1 + (8 + 8 * j + 3)), .int (zI (h))] : List Value).toArray s (0) (0) A) (F0 m 20 ls []) := by
      intro nf
      induction nf with
      | zero => intro i  a  h20_0 h20_1 h20_2; exact absurd h20_0 (by omega)
      | succ nf ih_20 =>
        intro i  a  h20_0 h20_1 h20_2 H locs ls hZ hl
        subst h20_2
        refine z_iload F dX0_linkAt_20 (lv_at hl 3 rfl) ?_
        refine z_iload_n F dX0_linkAt_22 rfl (lv_at hl 1 rfl) ?_
        refine z_icmp_gt (tgt := 63) F (by omega) (by omega) dX0_linkAt_23 (by decide) (fun c_23 => ?_) (fun c_23 => ?_)
        · skip
          refine z_lload_n F dX0_linkAt_63 rfl (lv_at hl 2 rfl) ?_
          refine lv_l2i F.1 F.2.1 dX0_linkAt_64 rfl ?_
          rw [← zI_of (lnkF (fun k => G (8 + 8 * j + 4) (k : Int)) i).toInt32]
          exact z_iret F hr hlocks hZ (by rw [cLink, if_neg c_7]; unfold lnkI; rw [show h.toNat + 1 = i by omega]) rfl dX0_linkAt_65 (by omega) (by omega)
        · skip
          refine z_iload F dX0_linkAt_26 (lv_at hl 3 rfl) ?_
          refine z_aload_n F dX0_linkAt_28 rfl (lv_at hl 0 rfl) ?_
          refine z_get F hK hZ (8 + 8 * j + 3) (hd _ (by omega)) (shp_chain j hj) (by decide) rfl hin0 0 (by decide) mX0_linkAt_9 rfl rfl dX0_linkAt_29 ?_
          refine z_alen F hK hZ (8 + 8 * j + 4) (hd _ (by omega)) (by decide) (shp_vals j hj) dX0_linkAt_32 ?_
          refine z_icmp_ge (tgt := 63) F (by omega) (by omega) dX0_linkAt_33 (by decide) (fun c_33 => ?_) (fun c_33 => ?_)
          · skip
            refine z_lload_n F dX0_linkAt_63 rfl (lv_at hl 2 rfl) ?_
            refine lv_l2i F.1 F.2.1 dX0_linkAt_64 rfl ?_
            rw [← zI_of (lnkF (fun k => G (8 + 8 * j + 4) (k : Int)) i).toInt32]
            exact z_iret F hr hlocks hZ (by rw [cLink, if_neg c_7]; unfold lnkI; rw [show h.toNat + 1 = i by omega]) rfl dX0_linkAt_65 (by omega) (by omega)
          · skip
            refine z_lload_n F dX0_linkAt_36 rfl (lv_at hl 2 rfl) ?_
            refine lv_ldc2 F.1 F.2.1 F.2.2.2.1 (F.2.2.2.2 (.constantLong RX0 30 (1000003)) (by decide +kernel)) dX0_linkAt_37 ?_
            refine lv_lmul F.1 F.2.1 dX0_linkAt_40 ?_
            refine z_aload_n F dX0_linkAt_41 rfl (lv_at hl 0 rfl) ?_
            refine z_get F hK hZ (8 + 8 * j + 3) (hd _ (by omega)) (shp_chain j hj) (by decide) rfl hin0 0 (by decide) mX0_linkAt_9 rfl rfl dX0_linkAt_42 ?_
            refine z_iload F dX0_linkAt_45 (lv_at hl 3 rfl) ?_
            refine z_iald F hK hZ (8 + 8 * j + 4) (hd _ (by omega)) (shp_vals j hj) (by decide) (by omega) (by omega) dX0_linkAt_47 ?_
            have r_2 := hZ.2.1.1 (8 + 8 * j + 4) ((i : Int))
            refine lv_i2l F.1 F.2.1 dX0_linkAt_48 rfl ?_
            refine lv_ladd F.1 F.2.1 dX0_linkAt_49 ?_
            refine lv_lconst F.1 F.2.1 dX0_linkAt_50 rfl ?_
            refine lv_ladd F.1 F.2.1 dX0_linkAt_51 ?_
            refine lv_ldc2 F.1 F.2.1 F.2.2.2.1 (F.2.2.2.2 (.constantLong RX0 32 (2147483648)) (by decide +kernel)) dX0_linkAt_52 ?_
            refine lv_lrem F.1 F.2.1 dX0_linkAt_55 (by decide) ?_
            refine z_lstore_n (lv' := [(2, .long (((((lnkF (fun k => G (8 + 8 * j + 4) (k : Int)) i) * ((1000003 : Int64))) + ((zI (G (8 + 8 * j + 4) ((i : Int)))).toInt64)) + ((1 : Int64))) - ((((lnkF (fun k => G (8 + 8 * j + 4) (k : Int)) i) * ((1000003 : Int64))) + ((zI (G (8 + 8 * j + 4) ((i : Int)))).toInt64)) + ((1 : Int64))) / ((2147483648 : Int64)) * ((2147483648 : Int64)))), (0, .ref (w.2.1 + (8 + 8 * j + 3))), (1, .int (zI (h))), (4, .int (zI ((i : Int))))]) F dX0_linkAt_56 rfl hl (by decide) rfl (fun ls hl => ?_)
            refine z_iinc (k := 3) (z := (i : Int)) (lv' := [(4, .int (zI ((i : Int) + 1))), (2, .long (((((lnkF (fun k => G (8 + 8 * j + 4) (k : Int)) i) * ((1000003 : Int64))) + ((zI (G (8 + 8 * j + 4) ((i : Int)))).toInt64)) + ((1 : Int64))) - ((((lnkF (fun k => G (8 + 8 * j + 4) (k : Int)) i) * ((1000003 : Int64))) + ((zI (G (8 + 8 * j + 4) ((i : Int)))).toInt64)) + ((1 : Int64))) / ((2147483648 : Int64)) * ((2147483648 : Int64)))), (0, .ref (w.2.1 + (8 + 8 * j + 3))), (1, .int (zI (h)))]) F dX0_linkAt_57 hl rfl (by decide) rfl (fun ls hl => ?_)
            refine lv_goto (tgt := 20) F.1 F.2.1 dX0_linkAt_60 (by decide) ?_
            exact ih_20 (i + 1) (((((lnkF (fun k => G (8 + 8 * j + 4) (k : Int)) i) * ((1000003 : Int64))) + ((zI (G (8 + 8 * j + 4) ((i : Int)))).toInt64)) + ((1 : Int64))) - ((((lnkF (fun k => G (8 + 8 * j + 4) (k : Int)) i) * ((1000003 : Int64))) + ((zI (G (8 + 8 * j + 4) ((i : Int)))).toInt64)) + ((1 : Int64))) / ((2147483648 : Int64)) * ((2147483648 : Int64))) (by omega) (by omega) rfl _ _ _ hZ (lv_sub hl [2, 3, 1, 0] rfl)
    exact L_20 (h.toNat + 2) 0 7 (by omega) (by omega) rfl _ _ _ hZ (lv_sub hl [2, 3, 1, 0] rfl)
  · skip
    refine z_bipush F (by decide) dX0_linkAt_10 ?_
    exact z_iret F hr hlocks hZ (by rw [cLink, if_pos c_7]) rfl dX0_linkAt_12 (by omega) (by omega)

theorem mX0_isRight_9 : Cond.fieldLink RX0 9 "LockedChain$Chain" "values" "[I" ∈ wsX0_isRight := by decide +kernel
set_option maxHeartbeats 4000000 in
set_option maxRecDepth 100000 in
theorem k_X0_isRight (l : Launch) (w : zW) (dom : Nat → Prop) (A : Nat → Prop) (hDA : ∀ i, dom i → A (w.2.1 + i)) (sz : Nat) (G : zM) (hd : ∀ i, i < 64 → dom i) (j : Nat) (hj : j < 7) (v : Int) (hv : -2147483648 ≤ v ∧ v < 2147483648) : Met l yX0_isRight wsX0_isRight { frames := 0, cells := 0, slots := 0, locals := 0 } (zPre w dom sz G [.ref (w.2.1 + (8 + 8 * j + 3)), .int (zI (v))]) (zQi w dom sz (bI (isRC (G (8 + 8 * j + 4)) v = true)) (fun C => C = G) A) (0) (0) A := by
  refine Met.ofW (cc := cX0_isRight) (maxL := 3) (ret := (some .boolean)) (by decide) rfl ?_
  intro p e s m args below meth c s₁ B hml hv
  obtain ⟨rfl, hsz, hP, hK⟩ := hv
  have F : CallFix p m c cX0_isRight 3 s _ wsX0_isRight RX0 := ⟨B.exec, B.bytes, hml, findClass_of_methodNamed B.named, atoms_spec (ws := wsX0_isRight) B.pre⟩
  have hr := B.returns
  have hlocks := B.notSynchronized
  have hZ : Zs w dom A s.heap sz G s.heap [] := ⟨hsz, hP, va_S.rf⟩
  have hl := lv_entry ([.ref (w.2.1 + (8 + 8 * j + 3)), .int (zI (v))]) (n := 3) (Nat.le_of_ble_eq_true rfl)
  rw [lg_entry_eq]
  generalize (lg_sl ([.ref (w.2.1 + (8 + 8 * j + 3)), .int (zI (v))]) ++ List.replicate (3 - (lg_sl ([.ref (w.2.1 + (8 + 8 * j + 3)), .int (zI (v))])).length) Slot.unset).toArray = ls at hl ⊢
  have hl : lv_has ls 3 [(0, .ref (w.2.1 + (8 + 8 * j + 3))), (1, .int (zI (v)))] := hl
  have hin0 : ∀ v ∈ u_ws RX0 TX0 2, v ∈ wsX0_isRight := by decide +kernel
  refine z_iload_n F dX0_isRight_0 rfl (lv_at hl 1 rfl) ?_
  refine z_if_ne (tgt := 6) F (by omega) dX0_isRight_1 (by decide) (fun c_1 => ?_) (fun c_1 => ?_)
  · skip
    refine z_iconst F dX0_isRight_6 ?_
    refine z_istore_n (lv' := [(2, .int (zI (0))), (0, .ref (w.2.1 + (8 + 8 * j + 3))), (1, .int (zI (v)))]) F dX0_isRight_7 rfl hl (by decide) rfl (fun ls hl => ?_)
    have L_8 : ∀ (nf : Nat) (i : Nat), (7 ≤ i + nf) → (i ≤ 6) → (¬ anyB (fun h => decide (G (8 + 8 * j + 4) (h : Int) = v)) i = true) →  ∀ (H : Heap) (locs : List Loc) (ls : Array Slot), Zs w dom A s.heap sz G H locs → lv_has ls 3 [(0, .ref (w.2.1 + (8 + 8 * j + 3))), (1, .int (zI (v))), (2, .int (zI ((i : Int))))] → W p l e (headSpec wsX0_isRight { frames := 0, cells := 0, slots := 0, locals := 0 }).room s m ([.ref (w.2.1 + (8 + 8 * j + 3)), .int (zI (v))] : List Value).toArray below meth c H locs (0) (0) (MQ below (zQi w dom sz (bI (isRC (G (8 + 8 * j + 4)) v = true)) (fun C => C = G) A) ([.ref (w.2.1 + (8 + 8 * j + 3)), .int (zI (v))] : List Value).toArray s (0) (0) A) (F0 m 8 ls []) := by
      intro nf
      induction nf with
      | zero => intro i  h8_0 h8_1 h8_2; exact absurd h8_0 (by omega)
      | succ nf ih_8 =>
        intro i  h8_0 h8_1 h8_2 H locs ls hZ hl
        refine z_iload_n F dX0_isRight_8 rfl (lv_at hl 2 rfl) ?_
        refine z_aload_n F dX0_isRight_9 rfl (lv_at hl 0 rfl) ?_
        refine z_get F hK hZ (8 + 8 * j + 3) (hd _ (by omega)) (shp_chain j hj) (by decide) rfl hin0 0 (by decide) mX0_isRight_9 rfl rfl dX0_isRight_10 ?_
        refine z_alen F hK hZ (8 + 8 * j + 4) (hd _ (by omega)) (by decide) (shp_vals j hj) dX0_isRight_13 ?_
        refine z_icmp_ge (tgt := 35) F (by omega) (by omega) dX0_isRight_14 (by decide) (fun c_14 => ?_) (fun c_14 => ?_)
        · skip
          refine z_iconst F dX0_isRight_35 ?_
          exact z_zret F hr hlocks hZ (bI_1 (by unfold isRC; rw [Bool.or_eq_true, Bool.not_eq_true', ← Bool.not_eq_true]; exact Or.inr (by rw [← show i = 6 by omega]; exact h8_2))) (by omega) rfl dX0_isRight_36 (by omega) (by omega)
        · skip
          refine z_aload_n F dX0_isRight_17 rfl (lv_at hl 0 rfl) ?_
          refine z_get F hK hZ (8 + 8 * j + 3) (hd _ (by omega)) (shp_chain j hj) (by decide) rfl hin0 0 (by decide) mX0_isRight_9 rfl rfl dX0_isRight_18 ?_
          refine z_iload_n F dX0_isRight_21 rfl (lv_at hl 2 rfl) ?_
          refine z_iald F hK hZ (8 + 8 * j + 4) (hd _ (by omega)) (shp_vals j hj) (by decide) (by omega) (by omega) dX0_isRight_22 ?_
          have r_1 := hZ.2.1.1 (8 + 8 * j + 4) ((i : Int))
          refine z_iload_n F dX0_isRight_23 rfl (lv_at hl 1 rfl) ?_
          refine z_icmp_ne (tgt := 29) F (by omega) (by omega) dX0_isRight_24 (by decide) (fun c_24 => ?_) (fun c_24 => ?_)
          · skip
            refine z_iinc (k := 2) (z := (i : Int)) (lv' := [(2, .int (zI ((i : Int) + 1))), (0, .ref (w.2.1 + (8 + 8 * j + 3))), (1, .int (zI (v)))]) F dX0_isRight_29 hl rfl (by decide) rfl (fun ls hl => ?_)
            refine lv_goto (tgt := 8) F.1 F.2.1 dX0_isRight_32 (by decide) ?_
            exact ih_8 (i + 1) (by omega) (by omega) (by rw [anyB_S, decide_eq_true_eq]; exact fun q => q.elim h8_2 c_24) _ _ _ hZ (lv_sub hl [1, 2, 0] rfl)
          · skip
            refine z_iconst F dX0_isRight_27 ?_
            exact z_zret F hr hlocks hZ (bI_0 (fun q => by unfold isRC at q; rw [Bool.or_eq_true, decide_eq_true_eq, Bool.not_eq_true'] at q; refine q.elim c_1 (fun q => ?_); rw [← Bool.not_eq_true, anyB_iff] at q; exact q ⟨i, by omega, by rw [decide_eq_true_eq]; exact c_24⟩)) (by omega) rfl dX0_isRight_28 (by omega) (by omega)
    exact L_8 7 0 (by omega) (by omega) (by simp [anyB]) _ _ _ hZ (lv_sub hl [1, 2, 0] rfl)
  · skip
    refine z_iconst F dX0_isRight_4 ?_
    exact z_zret F hr hlocks hZ (bI_1 (by unfold isRC; rw [Bool.or_eq_true, decide_eq_true_eq]; exact Or.inl c_1)) (by omega) rfl dX0_isRight_5 (by omega) (by omega)

theorem mX1_size_9 : Cond.fieldLink RX1 9 "LockedChain$Council" "size" "I" ∈ wsX1_size := by decide +kernel
set_option maxHeartbeats 4000000 in
set_option maxRecDepth 100000 in
theorem k_X1_size (l : Launch) (w : zW) (dom : Nat → Prop) (A : Nat → Prop) (hDA : ∀ i, dom i → A (w.2.1 + i)) (sz : Nat) (G : zM) (hd : ∀ i, i < 64 → dom i) : Met l yX1_size wsX1_size { frames := 0, cells := 0, slots := 0, locals := 0 } (zPre w dom sz G [.ref (w.2.1 + (1))]) (zQi w dom sz (G 1 0) (fun C => C = G) A) (0) (0) A := by
  refine Met.ofW (cc := cX1_size) (maxL := 1) (ret := (some .int)) (by decide) rfl ?_
  intro p e s m args below meth c s₁ B hml hv
  obtain ⟨rfl, hsz, hP, hK⟩ := hv
  have F : CallFix p m c cX1_size 1 s _ wsX1_size RX1 := ⟨B.exec, B.bytes, hml, findClass_of_methodNamed B.named, atoms_spec (ws := wsX1_size) B.pre⟩
  have hr := B.returns
  have hlocks := B.notSynchronized
  have hZ : Zs w dom A s.heap sz G s.heap [] := ⟨hsz, hP, va_S.rf⟩
  have hl := lv_entry ([.ref (w.2.1 + (1))]) (n := 1) (Nat.le_of_ble_eq_true rfl)
  rw [lg_entry_eq]
  generalize (lg_sl ([.ref (w.2.1 + (1))]) ++ List.replicate (1 - (lg_sl ([.ref (w.2.1 + (1))])).length) Slot.unset).toArray = ls at hl ⊢
  have hl : lv_has ls 1 [(0, .ref (w.2.1 + (1)))] := hl
  have hin1 : ∀ v ∈ u_ws RX1 TX1 1, v ∈ wsX1_size := by decide +kernel
  refine z_aload_n F dX1_size_0 rfl (lv_at hl 0 rfl) ?_
  refine z_get F hK hZ (1) (hd _ (by omega)) rfl (by decide) rfl hin1 0 (by decide) mX1_size_9 rfl rfl dX1_size_1 ?_
  have r_1 := hZ.2.1.1 (1) (0)
  exact z_iret F hr hlocks hZ (by first | rfl | omega | (simp only [bI]; omega) | (simp only [bI]; split <;> omega)) rfl dX1_size_4 (by omega) (by omega)

theorem mX1_resize_9 : Cond.fieldLink RX1 9 "LockedChain$Council" "size" "I" ∈ wsX1_resize := by decide +kernel
set_option maxHeartbeats 4000000 in
set_option maxRecDepth 100000 in
theorem k_X1_resize (l : Launch) (w : zW) (dom : Nat → Prop) (A : Nat → Prop) (hDA : ∀ i, dom i → A (w.2.1 + i)) (sz : Nat) (G : zM) (hd : ∀ i, i < 64 → dom i) (n : Int) (hn : -2147483648 ≤ n ∧ n < 2147483648) : Met l yX1_resize wsX1_resize { frames := 0, cells := 0, slots := 0, locals := 0 } (zPre w dom sz G [.ref (w.2.1 + (1)), .int (zI (n))]) (zQv w dom sz (fun C => C = up G 1 0 n) A) (0) (0) A := by
  refine Met.ofW (cc := cX1_resize) (maxL := 2) (ret := none) (by decide) rfl ?_
  intro p e s m args below meth c s₁ B hml hv
  obtain ⟨rfl, hsz, hP, hK⟩ := hv
  have F : CallFix p m c cX1_resize 2 s _ wsX1_resize RX1 := ⟨B.exec, B.bytes, hml, findClass_of_methodNamed B.named, atoms_spec (ws := wsX1_resize) B.pre⟩
  have hr := B.returns
  have hlocks := B.notSynchronized
  have hZ : Zs w dom A s.heap sz G s.heap [] := ⟨hsz, hP, va_S.rf⟩
  have hl := lv_entry ([.ref (w.2.1 + (1)), .int (zI (n))]) (n := 2) (Nat.le_of_ble_eq_true rfl)
  rw [lg_entry_eq]
  generalize (lg_sl ([.ref (w.2.1 + (1)), .int (zI (n))]) ++ List.replicate (2 - (lg_sl ([.ref (w.2.1 + (1)), .int (zI (n))])).length) Slot.unset).toArray = ls at hl ⊢
  have hl : lv_has ls 2 [(0, .ref (w.2.1 + (1))), (1, .int (zI (n)))] := hl
  have hin1 : ∀ v ∈ u_ws RX1 TX1 1, v ∈ wsX1_resize := by decide +kernel
  refine z_aload_n F dX1_resize_0 rfl (lv_at hl 0 rfl) ?_
  refine z_iload_n F dX1_resize_1 rfl (lv_at hl 1 rfl) ?_
  refine z_put (z := n) F hK hZ hDA (1) (hd _ (by omega)) rfl (by decide) rfl hin1 tyX1 tyX1_ok nmX1 0 (by decide) mX1_resize_9 rfl rfl rfl rfl (by omega) (kz := 0) rfl rfl (Nat.le_of_ble_eq_true rfl) dX1_resize_2 (fun H locs hZ => ?_)
  exact z_vret F hr hlocks hZ rfl dX1_resize_5 (by omega) (by omega)

theorem mX1_many_9 : Cond.fieldLink RX1 9 "LockedChain$Council" "size" "I" ∈ wsX1_many := by decide +kernel
set_option maxHeartbeats 4000000 in
set_option maxRecDepth 100000 in
theorem k_X1_many (l : Launch) (w : zW) (dom : Nat → Prop) (A : Nat → Prop) (hDA : ∀ i, dom i → A (w.2.1 + i)) (sz : Nat) (G : zM) (hd : ∀ i, i < 64 → dom i) (hn : 4 ≤ G 1 0 ∧ G 1 0 ≤ 7) : Met l yX1_many wsX1_many { frames := 0, cells := 0, slots := 0, locals := 0 } (zPre w dom sz G [.ref (w.2.1 + (1))]) (zQi w dom sz (2 * G 1 0 / 3 + 1) (fun C => C = G) A) (0) (0) A := by
  refine Met.ofW (cc := cX1_many) (maxL := 1) (ret := (some .int)) (by decide) rfl ?_
  intro p e s m args below meth c s₁ B hml hv
  obtain ⟨rfl, hsz, hP, hK⟩ := hv
  have F : CallFix p m c cX1_many 1 s _ wsX1_many RX1 := ⟨B.exec, B.bytes, hml, findClass_of_methodNamed B.named, atoms_spec (ws := wsX1_many) B.pre⟩
  have hr := B.returns
  have hlocks := B.notSynchronized
  have hZ : Zs w dom A s.heap sz G s.heap [] := ⟨hsz, hP, va_S.rf⟩
  have hl := lv_entry ([.ref (w.2.1 + (1))]) (n := 1) (Nat.le_of_ble_eq_true rfl)
  rw [lg_entry_eq]
  generalize (lg_sl ([.ref (w.2.1 + (1))]) ++ List.replicate (1 - (lg_sl ([.ref (w.2.1 + (1))])).length) Slot.unset).toArray = ls at hl ⊢
  have hl : lv_has ls 1 [(0, .ref (w.2.1 + (1)))] := hl
  have hin1 : ∀ v ∈ u_ws RX1 TX1 1, v ∈ wsX1_many := by decide +kernel
  refine z_iconst F dX1_many_0 ?_
  refine z_aload_n F dX1_many_1 rfl (lv_at hl 0 rfl) ?_
  refine z_get F hK hZ (1) (hd _ (by omega)) rfl (by decide) rfl hin1 0 (by decide) mX1_many_9 rfl rfl dX1_many_2 ?_
  have r_1 := hZ.2.1.1 (1) (0)
  refine z_imul F dX1_many_5 ?_
  refine z_iconst F dX1_many_6 ?_
  refine z_idiv F (by omega) (by omega) dX1_many_7 ?_
  refine z_iconst F dX1_many_8 ?_
  refine z_iadd F dX1_many_9 ?_
  exact z_iret F hr hlocks hZ (by first | rfl | omega | (simp only [bI]; omega) | (simp only [bI]; split <;> omega)) rfl dX1_many_10 (by omega) (by omega)

theorem mX1_some_9 : Cond.fieldLink RX1 9 "LockedChain$Council" "size" "I" ∈ wsX1_some := by decide +kernel
set_option maxHeartbeats 4000000 in
set_option maxRecDepth 100000 in
theorem k_X1_some (l : Launch) (w : zW) (dom : Nat → Prop) (A : Nat → Prop) (hDA : ∀ i, dom i → A (w.2.1 + i)) (sz : Nat) (G : zM) (hd : ∀ i, i < 64 → dom i) (hn : 4 ≤ G 1 0 ∧ G 1 0 ≤ 7) : Met l yX1_some wsX1_some { frames := 0, cells := 0, slots := 0, locals := 0 } (zPre w dom sz G [.ref (w.2.1 + (1))]) (zQi w dom sz ((G 1 0 - 1) / 3 + 1) (fun C => C = G) A) (0) (0) A := by
  refine Met.ofW (cc := cX1_some) (maxL := 1) (ret := (some .int)) (by decide) rfl ?_
  intro p e s m args below meth c s₁ B hml hv
  obtain ⟨rfl, hsz, hP, hK⟩ := hv
  have F : CallFix p m c cX1_some 1 s _ wsX1_some RX1 := ⟨B.exec, B.bytes, hml, findClass_of_methodNamed B.named, atoms_spec (ws := wsX1_some) B.pre⟩
  have hr := B.returns
  have hlocks := B.notSynchronized
  have hZ : Zs w dom A s.heap sz G s.heap [] := ⟨hsz, hP, va_S.rf⟩
  have hl := lv_entry ([.ref (w.2.1 + (1))]) (n := 1) (Nat.le_of_ble_eq_true rfl)
  rw [lg_entry_eq]
  generalize (lg_sl ([.ref (w.2.1 + (1))]) ++ List.replicate (1 - (lg_sl ([.ref (w.2.1 + (1))])).length) Slot.unset).toArray = ls at hl ⊢
  have hl : lv_has ls 1 [(0, .ref (w.2.1 + (1)))] := hl
  have hin1 : ∀ v ∈ u_ws RX1 TX1 1, v ∈ wsX1_some := by decide +kernel
  refine z_aload_n F dX1_some_0 rfl (lv_at hl 0 rfl) ?_
  refine z_get F hK hZ (1) (hd _ (by omega)) rfl (by decide) rfl hin1 0 (by decide) mX1_some_9 rfl rfl dX1_some_1 ?_
  have r_1 := hZ.2.1.1 (1) (0)
  refine z_iconst F dX1_some_4 ?_
  refine z_isub F dX1_some_5 ?_
  refine z_iconst F dX1_some_6 ?_
  refine z_idiv F (by omega) (by omega) dX1_some_7 ?_
  refine z_iconst F dX1_some_8 ?_
  refine z_iadd F dX1_some_9 ?_
  exact z_iret F hr hlocks hZ (by first | rfl | omega | (simp only [bI]; omega) | (simp only [bI]; split <;> omega)) rfl dX1_some_10 (by omega) (by omega)

theorem mX1_proposer_9 : Cond.fieldLink RX1 9 "LockedChain$Council" "size" "I" ∈ wsX1_proposer := by decide +kernel
set_option maxHeartbeats 4000000 in
set_option maxRecDepth 100000 in
theorem k_X1_proposer (l : Launch) (w : zW) (dom : Nat → Prop) (A : Nat → Prop) (hDA : ∀ i, dom i → A (w.2.1 + i)) (sz : Nat) (G : zM) (hd : ∀ i, i < 64 → dom i) (hn : 4 ≤ G 1 0 ∧ G 1 0 ≤ 7) (h r : Int) (hh : 0 ≤ h ∧ h ≤ 6) (hr : 0 ≤ r ∧ r ≤ 9) : Met l yX1_proposer wsX1_proposer { frames := 0, cells := 0, slots := 0, locals := 0 } (zPre w dom sz G [.ref (w.2.1 + (1)), .int (zI (h)), .int (zI (r))]) (zQi w dom sz ((h + r) % G 1 0) (fun C => C = G) A) (0) (0) A := by
  refine Met.ofW (cc := cX1_proposer) (maxL := 3) (ret := (some .int)) (by decide) rfl ?_
  intro p e s m args below meth c s₁ B hml hv
  obtain ⟨rfl, hsz, hP, hK⟩ := hv
  have F : CallFix p m c cX1_proposer 3 s _ wsX1_proposer RX1 := ⟨B.exec, B.bytes, hml, findClass_of_methodNamed B.named, atoms_spec (ws := wsX1_proposer) B.pre⟩
  have hr := B.returns
  have hlocks := B.notSynchronized
  have hZ : Zs w dom A s.heap sz G s.heap [] := ⟨hsz, hP, va_S.rf⟩
  have hl := lv_entry ([.ref (w.2.1 + (1)), .int (zI (h)), .int (zI (r))]) (n := 3) (Nat.le_of_ble_eq_true rfl)
  rw [lg_entry_eq]
  generalize (lg_sl ([.ref (w.2.1 + (1)), .int (zI (h)), .int (zI (r))]) ++ List.replicate (3 - (lg_sl ([.ref (w.2.1 + (1)), .int (zI (h)), .int (zI (r))])).length) Slot.unset).toArray = ls at hl ⊢
  have hl : lv_has ls 3 [(0, .ref (w.2.1 + (1))), (1, .int (zI (h))), (2, .int (zI (r)))] := hl
  have hin1 : ∀ v ∈ u_ws RX1 TX1 1, v ∈ wsX1_proposer := by decide +kernel
  have hm := mod_rng (h + r) hn
  refine z_aload_n F dX1_proposer_0 rfl (lv_at hl 0 rfl) ?_
  refine z_get F hK hZ (1) (hd _ (by omega)) rfl (by decide) rfl hin1 0 (by decide) mX1_proposer_9 rfl rfl dX1_proposer_1 ?_
  have r_1 := hZ.2.1.1 (1) (0)
  refine z_iconst F dX1_proposer_4 ?_
  refine z_icmp_ge (tgt := 12) F (by omega) (by omega) dX1_proposer_5 (by decide) (fun c_5 => ?_) (fun c_5 => ?_)
  · skip
    refine z_iload_n F dX1_proposer_12 rfl (lv_at hl 1 rfl) ?_
    refine z_iload_n F dX1_proposer_13 rfl (lv_at hl 2 rfl) ?_
    refine z_iadd F dX1_proposer_14 ?_
    refine z_aload_n F dX1_proposer_15 rfl (lv_at hl 0 rfl) ?_
    refine z_get F hK hZ (1) (hd _ (by omega)) rfl (by decide) rfl hin1 0 (by decide) mX1_proposer_9 rfl rfl dX1_proposer_16 ?_
    have r_2 := hZ.2.1.1 (1) (0)
    refine z_irem F (by omega) (by omega) dX1_proposer_19 ?_
    exact z_iret F hr hlocks hZ (by first | rfl | (exfalso; omega)) rfl dX1_proposer_20 (by omega) (by omega)
  · skip
    refine z_iconst F dX1_proposer_8 ?_
    refine lv_goto (tgt := 20) F.1 F.2.1 dX1_proposer_9 (by decide) ?_
    exact z_iret F hr hlocks hZ (by first | rfl | (exfalso; omega)) rfl dX1_proposer_20 (by omega) (by omega)

theorem mX3_clear_9 : Cond.fieldLink RX3 9 "LockedChain$Mark" "value" "I" ∈ wsX3_clear := by decide +kernel
theorem mX3_clear_15 : Cond.fieldLink RX3 15 "LockedChain$Mark" "round" "I" ∈ wsX3_clear := by decide +kernel
set_option maxHeartbeats 4000000 in
set_option maxRecDepth 100000 in
theorem k_X3_clear (l : Launch) (w : zW) (dom : Nat → Prop) (A : Nat → Prop) (hDA : ∀ i, dom i → A (w.2.1 + i)) (sz : Nat) (G : zM) (i : Nat) (hi : dom i) (hs : shp i = (3, 0)) : Met l yX3_clear wsX3_clear { frames := 0, cells := 0, slots := 0, locals := 0 } (zPre w dom sz G [.ref (w.2.1 + (i))]) (zQv w dom sz (fun C => C = cMark G i) A) (0) (0) A := by
  refine Met.ofW (cc := cX3_clear) (maxL := 1) (ret := none) (by decide) rfl ?_
  intro p e s m args below meth c s₁ B hml hv
  obtain ⟨rfl, hsz, hP, hK⟩ := hv
  have F : CallFix p m c cX3_clear 1 s _ wsX3_clear RX3 := ⟨B.exec, B.bytes, hml, findClass_of_methodNamed B.named, atoms_spec (ws := wsX3_clear) B.pre⟩
  have hr := B.returns
  have hlocks := B.notSynchronized
  have hZ : Zs w dom A s.heap sz G s.heap [] := ⟨hsz, hP, va_S.rf⟩
  have hl := lv_entry ([.ref (w.2.1 + (i))]) (n := 1) (Nat.le_of_ble_eq_true rfl)
  rw [lg_entry_eq]
  generalize (lg_sl ([.ref (w.2.1 + (i))]) ++ List.replicate (1 - (lg_sl ([.ref (w.2.1 + (i))])).length) Slot.unset).toArray = ls at hl ⊢
  have hl : lv_has ls 1 [(0, .ref (w.2.1 + (i)))] := hl
  have hin3 : ∀ v ∈ u_ws RX3 TX3 2, v ∈ wsX3_clear := by decide +kernel
  refine z_aload_n F dX3_clear_0 rfl (lv_at hl 0 rfl) ?_
  refine z_bipush F (by decide) dX3_clear_1 ?_
  refine z_put (z := -4) F hK hZ hDA (i) hi hs (by decide) rfl hin3 tyX3 tyX3_ok nmX3 0 (by decide) mX3_clear_9 rfl rfl rfl rfl (by omega) (kz := 0) rfl rfl (Nat.le_of_ble_eq_true rfl) dX3_clear_3 (fun H locs hZ => ?_)
  refine z_aload_n F dX3_clear_6 rfl (lv_at hl 0 rfl) ?_
  refine z_bipush F (by decide) dX3_clear_7 ?_
  refine z_put (z := -4) F hK hZ hDA (i) hi hs (by decide) rfl hin3 tyX3 tyX3_ok nmX3 1 (by decide) mX3_clear_15 rfl rfl rfl rfl (by omega) (kz := 1) rfl rfl (Nat.le_of_ble_eq_true rfl) dX3_clear_9 (fun H locs hZ => ?_)
  exact z_vret F hr hlocks hZ rfl dX3_clear_12 (by omega) (by omega)

theorem mX3_put_9 : Cond.fieldLink RX3 9 "LockedChain$Mark" "value" "I" ∈ wsX3_put := by decide +kernel
theorem mX3_put_15 : Cond.fieldLink RX3 15 "LockedChain$Mark" "round" "I" ∈ wsX3_put := by decide +kernel
set_option maxHeartbeats 4000000 in
set_option maxRecDepth 100000 in
theorem k_X3_put (l : Launch) (w : zW) (dom : Nat → Prop) (A : Nat → Prop) (hDA : ∀ i, dom i → A (w.2.1 + i)) (sz : Nat) (G : zM) (i : Nat) (hi : dom i) (hs : shp i = (3, 0)) (v r : Int) (hv : -2147483648 ≤ v ∧ v < 2147483648) (hr : -2147483648 ≤ r ∧ r < 2147483648) : Met l yX3_put wsX3_put { frames := 0, cells := 0, slots := 0, locals := 0 } (zPre w dom sz G [.ref (w.2.1 + (i)), .int (zI (v)), .int (zI (r))]) (zQv w dom sz (fun C => C = up (up G i 0 v) i 1 r) A) (0) (0) A := by
  refine Met.ofW (cc := cX3_put) (maxL := 3) (ret := none) (by decide) rfl ?_
  intro p e s m args below meth c s₁ B hml hv
  obtain ⟨rfl, hsz, hP, hK⟩ := hv
  have F : CallFix p m c cX3_put 3 s _ wsX3_put RX3 := ⟨B.exec, B.bytes, hml, findClass_of_methodNamed B.named, atoms_spec (ws := wsX3_put) B.pre⟩
  have hr := B.returns
  have hlocks := B.notSynchronized
  have hZ : Zs w dom A s.heap sz G s.heap [] := ⟨hsz, hP, va_S.rf⟩
  have hl := lv_entry ([.ref (w.2.1 + (i)), .int (zI (v)), .int (zI (r))]) (n := 3) (Nat.le_of_ble_eq_true rfl)
  rw [lg_entry_eq]
  generalize (lg_sl ([.ref (w.2.1 + (i)), .int (zI (v)), .int (zI (r))]) ++ List.replicate (3 - (lg_sl ([.ref (w.2.1 + (i)), .int (zI (v)), .int (zI (r))])).length) Slot.unset).toArray = ls at hl ⊢
  have hl : lv_has ls 3 [(0, .ref (w.2.1 + (i))), (1, .int (zI (v))), (2, .int (zI (r)))] := hl
  have hin3 : ∀ v ∈ u_ws RX3 TX3 2, v ∈ wsX3_put := by decide +kernel
  refine z_aload_n F dX3_put_0 rfl (lv_at hl 0 rfl) ?_
  refine z_iload_n F dX3_put_1 rfl (lv_at hl 1 rfl) ?_
  refine z_put (z := v) F hK hZ hDA (i) hi hs (by decide) rfl hin3 tyX3 tyX3_ok nmX3 0 (by decide) mX3_put_9 rfl rfl rfl rfl (by omega) (kz := 0) rfl rfl (Nat.le_of_ble_eq_true rfl) dX3_put_2 (fun H locs hZ => ?_)
  refine z_aload_n F dX3_put_5 rfl (lv_at hl 0 rfl) ?_
  refine z_iload_n F dX3_put_6 rfl (lv_at hl 2 rfl) ?_
  refine z_put (z := r) F hK hZ hDA (i) hi hs (by decide) rfl hin3 tyX3 tyX3_ok nmX3 1 (by decide) mX3_put_15 rfl rfl rfl rfl (by omega) (kz := 1) rfl rfl (Nat.le_of_ble_eq_true rfl) dX3_put_7 (fun H locs hZ => ?_)
  exact z_vret F hr hlocks hZ rfl dX3_put_10 (by omega) (by omega)

theorem mX3_isNone_9 : Cond.fieldLink RX3 9 "LockedChain$Mark" "value" "I" ∈ wsX3_isNone := by decide +kernel
set_option maxHeartbeats 4000000 in
set_option maxRecDepth 100000 in
theorem k_X3_isNone (l : Launch) (w : zW) (dom : Nat → Prop) (A : Nat → Prop) (hDA : ∀ i, dom i → A (w.2.1 + i)) (sz : Nat) (G : zM) (i : Nat) (hi : dom i) (hs : shp i = (3, 0)) : Met l yX3_isNone wsX3_isNone { frames := 0, cells := 0, slots := 0, locals := 0 } (zPre w dom sz G [.ref (w.2.1 + (i))]) (zQi w dom sz (bI (G i 0 = -4)) (fun C => C = G) A) (0) (0) A := by
  refine Met.ofW (cc := cX3_isNone) (maxL := 1) (ret := (some .boolean)) (by decide) rfl ?_
  intro p e s m args below meth c s₁ B hml hv
  obtain ⟨rfl, hsz, hP, hK⟩ := hv
  have F : CallFix p m c cX3_isNone 1 s _ wsX3_isNone RX3 := ⟨B.exec, B.bytes, hml, findClass_of_methodNamed B.named, atoms_spec (ws := wsX3_isNone) B.pre⟩
  have hr := B.returns
  have hlocks := B.notSynchronized
  have hZ : Zs w dom A s.heap sz G s.heap [] := ⟨hsz, hP, va_S.rf⟩
  have hl := lv_entry ([.ref (w.2.1 + (i))]) (n := 1) (Nat.le_of_ble_eq_true rfl)
  rw [lg_entry_eq]
  generalize (lg_sl ([.ref (w.2.1 + (i))]) ++ List.replicate (1 - (lg_sl ([.ref (w.2.1 + (i))])).length) Slot.unset).toArray = ls at hl ⊢
  have hl : lv_has ls 1 [(0, .ref (w.2.1 + (i)))] := hl
  have hin3 : ∀ v ∈ u_ws RX3 TX3 2, v ∈ wsX3_isNone := by decide +kernel
  refine z_aload_n F dX3_isNone_0 rfl (lv_at hl 0 rfl) ?_
  refine z_get F hK hZ (i) hi hs (by decide) rfl hin3 0 (by decide) mX3_isNone_9 rfl rfl dX3_isNone_1 ?_
  have r_1 := hZ.2.1.1 (i) (0)
  refine z_bipush F (by decide) dX3_isNone_4 ?_
  refine z_icmp_ne (tgt := 13) F (by omega) (by omega) dX3_isNone_6 (by decide) (fun c_6 => ?_) (fun c_6 => ?_)
  · skip
    refine z_iconst F dX3_isNone_13 ?_
    exact z_zret F hr hlocks hZ (by first | rfl | omega | (simp only [bI]; omega) | (simp only [bI]; split <;> omega)) (by omega) rfl dX3_isNone_14 (by omega) (by omega)
  · skip
    refine z_iconst F dX3_isNone_9 ?_
    refine lv_goto (tgt := 14) F.1 F.2.1 dX3_isNone_10 (by decide) ?_
    exact z_zret F hr hlocks hZ (by first | rfl | omega | (simp only [bI]; omega) | (simp only [bI]; split <;> omega)) (by omega) rfl dX3_isNone_14 (by omega) (by omega)

theorem mX6_enter_71 : Cond.fieldLink RX6 71 "LockedChain$Seat" "round" "I" ∈ wsX6_enter := by decide +kernel
theorem mX6_enter_74 : Cond.fieldLink RX6 74 "LockedChain$Seat" "step" "I" ∈ wsX6_enter := by decide +kernel
theorem mX6_enter_77 : Cond.fieldLink RX6 77 "LockedChain$Seat" "didLock" "Z" ∈ wsX6_enter := by decide +kernel
theorem mX6_enter_80 : Cond.fieldLink RX6 80 "LockedChain$Seat" "didTimePrevotes" "Z" ∈ wsX6_enter := by decide +kernel
theorem mX6_enter_83 : Cond.fieldLink RX6 83 "LockedChain$Seat" "didTimePrecommits" "Z" ∈ wsX6_enter := by decide +kernel
set_option maxHeartbeats 4000000 in
set_option maxRecDepth 100000 in
theorem k_X6_enter (l : Launch) (w : zW) (dom : Nat → Prop) (A : Nat → Prop) (hDA : ∀ i, dom i → A (w.2.1 + i)) (sz : Nat) (G : zM) (hd : ∀ i, i < 64 → dom i) (j : Nat) (hj : j < 7) (r : Int) (hr : -2147483648 ≤ r ∧ r < 2147483648) : Met l yX6_enter wsX6_enter { frames := 0, cells := 0, slots := 0, locals := 0 } (zPre w dom sz G [.ref (w.2.1 + (8 + 8 * j)), .int (zI (r))]) (zQv w dom sz (fun C => C = cEnter G j r) A) (0) (0) A := by
  refine Met.ofW (cc := cX6_enter) (maxL := 2) (ret := none) (by decide) rfl ?_
  intro p e s m args below meth c s₁ B hml hv
  obtain ⟨rfl, hsz, hP, hK⟩ := hv
  have F : CallFix p m c cX6_enter 2 s _ wsX6_enter RX6 := ⟨B.exec, B.bytes, hml, findClass_of_methodNamed B.named, atoms_spec (ws := wsX6_enter) B.pre⟩
  have hr := B.returns
  have hlocks := B.notSynchronized
  have hZ : Zs w dom A s.heap sz G s.heap [] := ⟨hsz, hP, va_S.rf⟩
  have hl := lv_entry ([.ref (w.2.1 + (8 + 8 * j)), .int (zI (r))]) (n := 2) (Nat.le_of_ble_eq_true rfl)
  rw [lg_entry_eq]
  generalize (lg_sl ([.ref (w.2.1 + (8 + 8 * j)), .int (zI (r))]) ++ List.replicate (2 - (lg_sl ([.ref (w.2.1 + (8 + 8 * j)), .int (zI (r))])).length) Slot.unset).toArray = ls at hl ⊢
  have hl : lv_has ls 2 [(0, .ref (w.2.1 + (8 + 8 * j))), (1, .int (zI (r)))] := hl
  have hin6 : ∀ v ∈ u_ws RX6 TX6 15, v ∈ wsX6_enter := by decide +kernel
  refine z_aload_n F dX6_enter_0 rfl (lv_at hl 0 rfl) ?_
  refine z_iload_n F dX6_enter_1 rfl (lv_at hl 1 rfl) ?_
  refine z_put (z := r) F hK hZ hDA (8 + 8 * j) (hd _ (by omega)) (shp_seat j hj) (by decide) rfl hin6 tyX6 tyX6_ok nmX6 3 (by decide) mX6_enter_71 rfl rfl rfl rfl (by omega) (kz := 3) rfl rfl (Nat.le_of_ble_eq_true rfl) dX6_enter_2 (fun H locs hZ => ?_)
  refine z_aload_n F dX6_enter_5 rfl (lv_at hl 0 rfl) ?_
  refine z_iconst F dX6_enter_6 ?_
  refine z_put (z := 0) F hK hZ hDA (8 + 8 * j) (hd _ (by omega)) (shp_seat j hj) (by decide) rfl hin6 tyX6 tyX6_ok nmX6 4 (by decide) mX6_enter_74 rfl rfl rfl rfl (by omega) (kz := 4) rfl rfl (Nat.le_of_ble_eq_true rfl) dX6_enter_7 (fun H locs hZ => ?_)
  refine z_aload_n F dX6_enter_10 rfl (lv_at hl 0 rfl) ?_
  refine z_iconst F dX6_enter_11 ?_
  refine z_put (z := 0) F hK hZ hDA (8 + 8 * j) (hd _ (by omega)) (shp_seat j hj) (by decide) rfl hin6 tyX6 tyX6_ok nmX6 6 (by decide) mX6_enter_77 rfl rfl rfl rfl (by omega) (kz := 6) rfl rfl (Nat.le_of_ble_eq_true rfl) dX6_enter_12 (fun H locs hZ => ?_)
  refine z_aload_n F dX6_enter_15 rfl (lv_at hl 0 rfl) ?_
  refine z_iconst F dX6_enter_16 ?_
  refine z_put (z := 0) F hK hZ hDA (8 + 8 * j) (hd _ (by omega)) (shp_seat j hj) (by decide) rfl hin6 tyX6 tyX6_ok nmX6 7 (by decide) mX6_enter_80 rfl rfl rfl rfl (by omega) (kz := 7) rfl rfl (Nat.le_of_ble_eq_true rfl) dX6_enter_17 (fun H locs hZ => ?_)
  refine z_aload_n F dX6_enter_20 rfl (lv_at hl 0 rfl) ?_
  refine z_iconst F dX6_enter_21 ?_
  refine z_put (z := 0) F hK hZ hDA (8 + 8 * j) (hd _ (by omega)) (shp_seat j hj) (by decide) rfl hin6 tyX6 tyX6_ok nmX6 8 (by decide) mX6_enter_83 rfl rfl rfl rfl (by omega) (kz := 8) rfl rfl (Nat.le_of_ble_eq_true rfl) dX6_enter_22 (fun H locs hZ => ?_)
  exact z_vret F hr hlocks hZ rfl dX6_enter_25 (by omega) (by omega)

theorem mX6_clearHeight_12 : Cond.fieldLink RX6 12 "LockedChain$Seat" "locked" "LLockedChain$Mark;" ∈ wsX6_clearHeight := by decide +kernel
theorem mX6_clearHeight_18 : Cond.fieldLink RX6 18 "LockedChain$Seat" "valid" "LLockedChain$Mark;" ∈ wsX6_clearHeight := by decide +kernel
theorem mX6_clearHeight_32 : Cond.fieldLink RX6 32 "LockedChain$Seat" "timers" "[I" ∈ wsX6_clearHeight := by decide +kernel
theorem mX6_clearHeight_57 : Cond.fieldLink RX6 57 "LockedChain$Seat" "isStale" "Z" ∈ wsX6_clearHeight := by decide +kernel
set_option maxHeartbeats 4000000 in
set_option maxRecDepth 100000 in
theorem k_X6_clearHeight (l : Launch) (w : zW) (dom : Nat → Prop) (A : Nat → Prop) (hDA : ∀ i, dom i → A (w.2.1 + i)) (sz : Nat) (G : zM) (hd : ∀ i, i < 64 → dom i) (j : Nat) (hj : j < 7) : Met l yX6_clearHeight wsX6_clearHeight { frames := 1, cells := 0, slots := 0, locals := 23 } (zPre w dom sz G [.ref (w.2.1 + (8 + 8 * j))]) (zQv w dom sz (fun C => C = cClrH G j) A) (0) (0) A := by
  refine Met.ofW (cc := cX6_clearHeight) (maxL := 1) (ret := none) (by decide) rfl ?_
  intro p e s m args below meth c s₁ B hml hv
  obtain ⟨rfl, hsz, hP, hK⟩ := hv
  have F : CallFix p m c cX6_clearHeight 1 s _ wsX6_clearHeight RX6 := ⟨B.exec, B.bytes, hml, findClass_of_methodNamed B.named, atoms_spec (ws := wsX6_clearHeight) B.pre⟩
  have hr := B.returns
  have hlocks := B.notSynchronized
  have hZ : Zs w dom A s.heap sz G s.heap [] := ⟨hsz, hP, va_S.rf⟩
  have hl := lv_entry ([.ref (w.2.1 + (8 + 8 * j))]) (n := 1) (Nat.le_of_ble_eq_true rfl)
  rw [lg_entry_eq]
  generalize (lg_sl ([.ref (w.2.1 + (8 + 8 * j))]) ++ List.replicate (1 - (lg_sl ([.ref (w.2.1 + (8 + 8 * j))])).length) Slot.unset).toArray = ls at hl ⊢
  have hl : lv_has ls 1 [(0, .ref (w.2.1 + (8 + 8 * j)))] := hl
  have hin6 : ∀ v ∈ u_ws RX6 TX6 15, v ∈ wsX6_clearHeight := by decide +kernel
  refine z_aload_n F dX6_clearHeight_0 rfl (lv_at hl 0 rfl) ?_
  refine z_iconst F dX6_clearHeight_1 ?_
  refine z_put (z := 0) F hK hZ hDA (8 + 8 * j) (hd _ (by omega)) (shp_seat j hj) (by decide) rfl hin6 tyX6 tyX6_ok nmX6 5 (by decide) mX6_clearHeight_57 rfl rfl rfl rfl (by omega) (kz := 5) rfl rfl (Nat.le_of_ble_eq_true rfl) dX6_clearHeight_2 (fun H locs hZ => ?_)
  refine z_aload_n F dX6_clearHeight_5 rfl (lv_at hl 0 rfl) ?_
  refine z_get F hK hZ (8 + 8 * j) (hd _ (by omega)) (shp_seat j hj) (by decide) rfl hin6 10 (by decide) mX6_clearHeight_12 rfl rfl dX6_clearHeight_6 ?_
  refine z_bxv hZ (va_runV (As := []) (rest := []) F (k_X3_clear l w dom A hDA sz (up G (8 + 8 * j) (5) (0)) (8 + 8 * j + 1) (hd _ (by omega)) (shp_lock j hj) ) (cwV 0 F.2.2.2.2 gX6_clearHeight_X3_clear rfl rfl rfl (by decide +kernel) ⟨Nat.le_of_ble_eq_true rfl, Nat.le_of_ble_eq_true rfl⟩) (z_preV hK hZ (8 + 8 * j + 1) (hd _ (by omega)) (shp_lock j hj) (by decide) rfl _) rfl rfl hl.1 rfl (lv_room (Nat.le_of_ble_eq_true rfl)) dX6_clearHeight_9 ⟨Nat.le_of_ble_eq_true rfl, Nat.le_of_ble_eq_true rfl⟩) (fun H locs hZ => ?_)
  refine z_aload_n F dX6_clearHeight_12 rfl (lv_at hl 0 rfl) ?_
  refine z_get F hK hZ (8 + 8 * j) (hd _ (by omega)) (shp_seat j hj) (by decide) rfl hin6 11 (by decide) mX6_clearHeight_18 rfl rfl dX6_clearHeight_13 ?_
  refine z_bxv hZ (va_runV (As := []) (rest := []) F (k_X3_clear l w dom A hDA sz (cMark (up G (8 + 8 * j) (5) (0)) (8 + 8 * j + 1)) (8 + 8 * j + 2) (hd _ (by omega)) (shp_valid j hj) ) (cwV 0 F.2.2.2.2 gX6_clearHeight_X3_clear rfl rfl rfl (by decide +kernel) ⟨Nat.le_of_ble_eq_true rfl, Nat.le_of_ble_eq_true rfl⟩) (z_preV hK hZ (8 + 8 * j + 2) (hd _ (by omega)) (shp_valid j hj) (by decide) rfl _) rfl rfl hl.1 rfl (lv_room (Nat.le_of_ble_eq_true rfl)) dX6_clearHeight_16 ⟨Nat.le_of_ble_eq_true rfl, Nat.le_of_ble_eq_true rfl⟩) (fun H locs hZ => ?_)
  refine z_aload_n F dX6_clearHeight_19 rfl (lv_at hl 0 rfl) ?_
  refine z_get F hK hZ (8 + 8 * j) (hd _ (by omega)) (shp_seat j hj) (by decide) rfl hin6 14 (by decide) mX6_clearHeight_32 rfl rfl dX6_clearHeight_20 ?_
  refine z_iconst F dX6_clearHeight_23 ?_
  refine z_bxv hZ (va_runS (As := [.ref (w.2.1 + (8 + 8 * j + 7)), .int (zI (-1))]) (rest := []) F (k_J7_fill_53178 l w dom A hDA sz (cMark (cMark (up G (8 + 8 * j) (5) (0)) (8 + 8 * j + 1)) (8 + 8 * j + 2)) (8 + 8 * j + 7) 3 (hd _ (by omega)) (shp_tims j hj) (by decide) (-1) (by omega)) (va_cwS 2 F.2.2.2.2 gX6_clearHeight_J7_fill_53178 rfl rfl rfl (by decide +kernel) ⟨Nat.le_of_ble_eq_true rfl, Nat.le_of_ble_eq_true rfl⟩) (z_preS hK hZ _) rfl rfl hl.1 rfl (lv_room (Nat.le_of_ble_eq_true rfl)) dX6_clearHeight_24 ⟨Nat.le_of_ble_eq_true rfl, Nat.le_of_ble_eq_true rfl⟩) (fun H locs hZ => ?_)
  refine z_aload_n F dX6_clearHeight_27 rfl (lv_at hl 0 rfl) ?_
  refine z_iconst F dX6_clearHeight_28 ?_
  refine z_bxv hZ (va_runV (As := [.int (zI (0))]) (rest := []) F (k_X6_enter l w dom A hDA sz (fillM (cMark (cMark (up G (8 + 8 * j) (5) (0)) (8 + 8 * j + 1)) (8 + 8 * j + 2)) (8 + 8 * j + 7) 0 3 (-1)) hd j hj 0 (by omega)) (cwV 1 F.2.2.2.2 gX6_clearHeight_X6_enter rfl rfl rfl (by decide +kernel) ⟨Nat.le_of_ble_eq_true rfl, Nat.le_of_ble_eq_true rfl⟩) (z_preV hK hZ (8 + 8 * j) (hd _ (by omega)) (shp_seat j hj) (by decide) rfl _) rfl rfl hl.1 rfl (lv_room (Nat.le_of_ble_eq_true rfl)) dX6_clearHeight_29 ⟨Nat.le_of_ble_eq_true rfl, Nat.le_of_ble_eq_true rfl⟩) (fun H locs hZ => ?_)
  exact z_vret F hr hlocks hZ rfl dX6_clearHeight_32 (by omega) (by omega)

theorem mX6_clear_24 : Cond.fieldLink RX6 24 "LockedChain$Seat" "chain" "LLockedChain$Chain;" ∈ wsX6_clear := by decide +kernel
theorem mX6_clear_28 : Cond.fieldLink RX6 28 "LockedChain$Seat" "held" "[Z" ∈ wsX6_clear := by decide +kernel
theorem mX6_clear_43 : Cond.fieldLink RX6 43 "LockedChain$Seat" "isFalse" "Z" ∈ wsX6_clear := by decide +kernel
theorem mX6_clear_47 : Cond.fieldLink RX6 47 "LockedChain$Seat" "height" "I" ∈ wsX6_clear := by decide +kernel
theorem mX6_clear_50 : Cond.fieldLink RX6 50 "LockedChain$Seat" "heldValues" "I" ∈ wsX6_clear := by decide +kernel
set_option maxHeartbeats 4000000 in
set_option maxRecDepth 100000 in
theorem k_X6_clear (l : Launch) (w : zW) (dom : Nat → Prop) (A : Nat → Prop) (hDA : ∀ i, dom i → A (w.2.1 + i)) (sz : Nat) (G : zM) (hd : ∀ i, i < 64 → dom i) (j : Nat) (hj : j < 7) : Met l yX6_clear wsX6_clear { frames := 2, cells := 0, slots := 0, locals := 43 } (zPre w dom sz G [.ref (w.2.1 + (8 + 8 * j))]) (zQv w dom sz (fun C => C = cClr G j) A) (0) (0) A := by
  refine Met.ofW (cc := cX6_clear) (maxL := 2) (ret := none) (by decide) rfl ?_
  intro p e s m args below meth c s₁ B hml hv
  obtain ⟨rfl, hsz, hP, hK⟩ := hv
  have F : CallFix p m c cX6_clear 2 s _ wsX6_clear RX6 := ⟨B.exec, B.bytes, hml, findClass_of_methodNamed B.named, atoms_spec (ws := wsX6_clear) B.pre⟩
  have hr := B.returns
  have hlocks := B.notSynchronized
  have hZ : Zs w dom A s.heap sz G s.heap [] := ⟨hsz, hP, va_S.rf⟩
  have hl := lv_entry ([.ref (w.2.1 + (8 + 8 * j))]) (n := 2) (Nat.le_of_ble_eq_true rfl)
  rw [lg_entry_eq]
  generalize (lg_sl ([.ref (w.2.1 + (8 + 8 * j))]) ++ List.replicate (2 - (lg_sl ([.ref (w.2.1 + (8 + 8 * j))])).length) Slot.unset).toArray = ls at hl ⊢
  have hl : lv_has ls 2 [(0, .ref (w.2.1 + (8 + 8 * j)))] := hl
  have hin6 : ∀ v ∈ u_ws RX6 TX6 15, v ∈ wsX6_clear := by decide +kernel
  refine z_aload_n F dX6_clear_0 rfl (lv_at hl 0 rfl) ?_
  refine z_iconst F dX6_clear_1 ?_
  refine z_put (z := 0) F hK hZ hDA (8 + 8 * j) (hd _ (by omega)) (shp_seat j hj) (by decide) rfl hin6 tyX6 tyX6_ok nmX6 1 (by decide) mX6_clear_43 rfl rfl rfl rfl (by omega) (kz := 1) rfl rfl (Nat.le_of_ble_eq_true rfl) dX6_clear_2 (fun H locs hZ => ?_)
  refine z_aload_n F dX6_clear_5 rfl (lv_at hl 0 rfl) ?_
  refine z_iconst F dX6_clear_6 ?_
  refine z_put (z := 0) F hK hZ hDA (8 + 8 * j) (hd _ (by omega)) (shp_seat j hj) (by decide) rfl hin6 tyX6 tyX6_ok nmX6 2 (by decide) mX6_clear_47 rfl rfl rfl rfl (by omega) (kz := 2) rfl rfl (Nat.le_of_ble_eq_true rfl) dX6_clear_7 (fun H locs hZ => ?_)
  refine z_aload_n F dX6_clear_10 rfl (lv_at hl 0 rfl) ?_
  refine z_iconst F dX6_clear_11 ?_
  refine z_put (z := 0) F hK hZ hDA (8 + 8 * j) (hd _ (by omega)) (shp_seat j hj) (by decide) rfl hin6 tyX6 tyX6_ok nmX6 9 (by decide) mX6_clear_50 rfl rfl rfl rfl (by omega) (kz := 9) rfl rfl (Nat.le_of_ble_eq_true rfl) dX6_clear_12 (fun H locs hZ => ?_)
  refine z_iconst F dX6_clear_15 ?_
  refine z_istore_n (lv' := [(1, .int (zI (0))), (0, .ref (w.2.1 + (8 + 8 * j)))]) F dX6_clear_16 rfl hl (by decide) rfl (fun ls hl => ?_)
  have L_17 : ∀ (nf : Nat) (i : Nat) (M : zM), (101 ≤ i + nf) → (i ≤ 100) → (M = fillM (up (up (up G (8 + 8 * j) 1 0) (8 + 8 * j) 2 0) (8 + 8 * j) 9 0) (8 + 8 * j + 6) 0 i 0) →  ∀ (H : Heap) (locs : List Loc) (ls : Array Slot), Zs w dom A s.heap sz M H locs → lv_has ls 2 [(0, .ref (w.2.1 + (8 + 8 * j))), (1, .int (zI ((i : Int))))] → W p l e (headSpec wsX6_clear { frames := 2, cells := 0, slots := 0, locals := 43 }).room s m ([.ref (w.2.1 + (8 + 8 * j))] : List Value).toArray below meth c H locs (0) (0) (MQ below (zQv w dom sz (fun C => C = cClr G j) A) ([.ref (w.2.1 + (8 + 8 * j))] : List Value).toArray s (0) (0) A) (F0 m 17 ls []) := by
    intro nf
    induction nf with
    | zero => intro i  M  h17_0 h17_1 h17_2; exact absurd h17_0 (by omega)
    | succ nf ih_17 =>
      intro i  M  h17_0 h17_1 h17_2 H locs ls hZ hl
      refine z_iload_n F dX6_clear_17 rfl (lv_at hl 1 rfl) ?_
      refine z_aload_n F dX6_clear_18 rfl (lv_at hl 0 rfl) ?_
      refine z_get F hK hZ (8 + 8 * j) (hd _ (by omega)) (shp_seat j hj) (by decide) rfl hin6 13 (by decide) mX6_clear_28 rfl rfl dX6_clear_19 ?_
      refine z_alen F hK hZ (8 + 8 * j + 6) (hd _ (by omega)) (by decide) (shp_held j hj) dX6_clear_22 ?_
      refine z_icmp_ge (tgt := 39) F (by omega) (by omega) dX6_clear_23 (by decide) (fun c_23 => ?_) (fun c_23 => ?_)
      · skip
        refine z_aload_n F dX6_clear_39 rfl (lv_at hl 0 rfl) ?_
        refine z_get F hK hZ (8 + 8 * j) (hd _ (by omega)) (shp_seat j hj) (by decide) rfl hin6 12 (by decide) mX6_clear_24 rfl rfl dX6_clear_40 ?_
        refine z_bxv hZ (va_runV (As := []) (rest := []) F (k_X0_clear l w dom A hDA sz M hd j hj ) (cwV 0 F.2.2.2.2 gX6_clear_X0_clear rfl rfl rfl (by decide +kernel) ⟨Nat.le_of_ble_eq_true rfl, Nat.le_of_ble_eq_true rfl⟩) (z_preV hK hZ (8 + 8 * j + 3) (hd _ (by omega)) (shp_chain j hj) (by decide) rfl _) rfl rfl hl.1 rfl (lv_room (Nat.le_of_ble_eq_true rfl)) dX6_clear_43 ⟨Nat.le_of_ble_eq_true rfl, Nat.le_of_ble_eq_true rfl⟩) (fun H locs hZ => ?_)
        refine z_aload_n F dX6_clear_46 rfl (lv_at hl 0 rfl) ?_
        refine z_bxv hZ (va_runV (As := []) (rest := []) F (k_X6_clearHeight l w dom A hDA sz (cChClr M j) hd j hj ) (cwV 0 F.2.2.2.2 gX6_clear_X6_clearHeight rfl rfl rfl (by decide +kernel) ⟨Nat.le_of_ble_eq_true rfl, Nat.le_of_ble_eq_true rfl⟩) (z_preV hK hZ (8 + 8 * j) (hd _ (by omega)) (shp_seat j hj) (by decide) rfl _) rfl rfl hl.1 rfl (lv_room (Nat.le_of_ble_eq_true rfl)) dX6_clear_47 ⟨Nat.le_of_ble_eq_true rfl, Nat.le_of_ble_eq_true rfl⟩) (fun H locs hZ => ?_)
        exact z_vret F hr hlocks hZ (by rw [h17_2, show i = 100 by omega]; rfl) dX6_clear_50 (by omega) (by omega)
      · skip
        refine z_aload_n F dX6_clear_26 rfl (lv_at hl 0 rfl) ?_
        refine z_get F hK hZ (8 + 8 * j) (hd _ (by omega)) (shp_seat j hj) (by decide) rfl hin6 13 (by decide) mX6_clear_28 rfl rfl dX6_clear_27 ?_
        refine z_iload_n F dX6_clear_30 rfl (lv_at hl 1 rfl) ?_
        refine z_iconst F dX6_clear_31 ?_
        refine z_zast F hK hZ hDA (8 + 8 * j + 6) (hd _ (by omega)) (shp_held j hj) (by decide) (by omega) (by omega) (by omega) dX6_clear_32 (fun H locs hZ => ?_)
        refine z_iinc (k := 1) (z := (i : Int)) (lv' := [(1, .int (zI ((i : Int) + 1))), (0, .ref (w.2.1 + (8 + 8 * j)))]) F dX6_clear_33 hl rfl (by decide) rfl (fun ls hl => ?_)
        refine lv_goto (tgt := 17) F.1 F.2.1 dX6_clear_36 (by decide) ?_
        exact ih_17 (i + 1) (up M (8 + 8 * j + 6) ((i : Int)) (0)) (by omega) (by omega) (by rw [h17_2]; exact fillM_S _ _ _ _ _ _ (by omega)) _ _ _ hZ (lv_sub hl [1, 0] rfl)
  exact L_17 101 0 (up (up (up G (8 + 8 * j) (1) (0)) (8 + 8 * j) (2) (0)) (8 + 8 * j) (9) (0)) (by omega) (by omega) (fillM_0 _ _ _ _).symm _ _ _ hZ (lv_sub hl [1, 0] rfl)

theorem mX6_decide_24 : Cond.fieldLink RX6 24 "LockedChain$Seat" "chain" "LLockedChain$Chain;" ∈ wsX6_decide := by decide +kernel
theorem mX6_decide_47 : Cond.fieldLink RX6 47 "LockedChain$Seat" "height" "I" ∈ wsX6_decide := by decide +kernel
set_option maxHeartbeats 4000000 in
set_option maxRecDepth 100000 in
theorem k_X6_decide (l : Launch) (w : zW) (dom : Nat → Prop) (A : Nat → Prop) (hDA : ∀ i, dom i → A (w.2.1 + i)) (sz : Nat) (G : zM) (hd : ∀ i, i < 64 → dom i) (j : Nat) (hj : j < 7) (hh : 0 ≤ G (8 + 8 * j) 2 ∧ G (8 + 8 * j) 2 < 6) (v r : Int) (hv : -2147483648 ≤ v ∧ v < 2147483648) (hr : -2147483648 ≤ r ∧ r < 2147483648) : Met l yX6_decide wsX6_decide { frames := 2, cells := 0, slots := 0, locals := 43 } (zPre w dom sz G [.ref (w.2.1 + (8 + 8 * j)), .int (zI (v)), .int (zI (r))]) (zQv w dom sz (fun C => C = cDec G j v r) A) (0) (0) A := by
  refine Met.ofW (cc := cX6_decide) (maxL := 3) (ret := none) (by decide) rfl ?_
  intro p e s m args below meth c s₁ B hml hv
  obtain ⟨rfl, hsz, hP, hK⟩ := hv
  have F : CallFix p m c cX6_decide 3 s _ wsX6_decide RX6 := ⟨B.exec, B.bytes, hml, findClass_of_methodNamed B.named, atoms_spec (ws := wsX6_decide) B.pre⟩
  have hr := B.returns
  have hlocks := B.notSynchronized
  have hZ : Zs w dom A s.heap sz G s.heap [] := ⟨hsz, hP, va_S.rf⟩
  have hl := lv_entry ([.ref (w.2.1 + (8 + 8 * j)), .int (zI (v)), .int (zI (r))]) (n := 3) (Nat.le_of_ble_eq_true rfl)
  rw [lg_entry_eq]
  generalize (lg_sl ([.ref (w.2.1 + (8 + 8 * j)), .int (zI (v)), .int (zI (r))]) ++ List.replicate (3 - (lg_sl ([.ref (w.2.1 + (8 + 8 * j)), .int (zI (v)), .int (zI (r))])).length) Slot.unset).toArray = ls at hl ⊢
  have hl : lv_has ls 3 [(0, .ref (w.2.1 + (8 + 8 * j))), (1, .int (zI (v))), (2, .int (zI (r)))] := hl
  have hin6 : ∀ v ∈ u_ws RX6 TX6 15, v ∈ wsX6_decide := by decide +kernel
  refine z_aload_n F dX6_decide_0 rfl (lv_at hl 0 rfl) ?_
  refine z_get F hK hZ (8 + 8 * j) (hd _ (by omega)) (shp_seat j hj) (by decide) rfl hin6 12 (by decide) mX6_decide_24 rfl rfl dX6_decide_1 ?_
  refine z_aload_n F dX6_decide_4 rfl (lv_at hl 0 rfl) ?_
  refine z_get F hK hZ (8 + 8 * j) (hd _ (by omega)) (shp_seat j hj) (by decide) rfl hin6 2 (by decide) mX6_decide_47 rfl rfl dX6_decide_5 ?_
  have r_1 := hZ.2.1.1 (8 + 8 * j) (2)
  refine z_iload_n F dX6_decide_8 rfl (lv_at hl 1 rfl) ?_
  refine z_iload_n F dX6_decide_9 rfl (lv_at hl 2 rfl) ?_
  refine z_bxv hZ (va_runV (As := [.int (zI (G (8 + 8 * j) 2)), .int (zI (v)), .int (zI (r))]) (rest := []) F (k_X0_add l w dom A hDA sz G hd j hj (G (8 + 8 * j) 2) v r (by omega) (by omega) (by omega)) (cwV 3 F.2.2.2.2 gX6_decide_X0_add rfl rfl rfl (by decide +kernel) ⟨Nat.le_of_ble_eq_true rfl, Nat.le_of_ble_eq_true rfl⟩) (z_preV hK hZ (8 + 8 * j + 3) (hd _ (by omega)) (shp_chain j hj) (by decide) rfl _) rfl rfl hl.1 rfl (lv_room (Nat.le_of_ble_eq_true rfl)) dX6_decide_10 ⟨Nat.le_of_ble_eq_true rfl, Nat.le_of_ble_eq_true rfl⟩) (fun H locs hZ => ?_)
  have n2 : cAdd G j (G (8 + 8 * j) 2) v r (8 + 8 * j) 2 = G (8 + 8 * j) 2 := by unfold cAdd; rw [up_cell _ _ _ (by omega), up_cell _ _ _ (by omega)]
  refine z_aload_n F dX6_decide_13 rfl (lv_at hl 0 rfl) ?_
  refine lv_dup F.1 F.2.1 dX6_decide_14 rfl ?_
  refine z_get F hK hZ (8 + 8 * j) (hd _ (by omega)) (shp_seat j hj) (by decide) rfl hin6 2 (by decide) mX6_decide_47 rfl rfl dX6_decide_15 ?_
  have r_2 := hZ.2.1.1 (8 + 8 * j) (2)
  refine z_iconst F dX6_decide_18 ?_
  refine z_iadd F dX6_decide_19 ?_
  refine z_put (z := (cAdd G j (G (8 + 8 * j) 2) v r) (8 + 8 * j) 2 + 1) F hK hZ hDA (8 + 8 * j) (hd _ (by omega)) (shp_seat j hj) (by decide) rfl hin6 tyX6 tyX6_ok nmX6 2 (by decide) mX6_decide_47 rfl rfl rfl rfl (by omega) (kz := 2) rfl rfl (Nat.le_of_ble_eq_true rfl) dX6_decide_20 (fun H locs hZ => ?_)
  refine z_aload_n F dX6_decide_23 rfl (lv_at hl 0 rfl) ?_
  refine z_bxv hZ (va_runV (As := []) (rest := []) F (k_X6_clearHeight l w dom A hDA sz (up (cAdd G j (G (8 + 8 * j) 2) v r) (8 + 8 * j) (2) ((cAdd G j (G (8 + 8 * j) 2) v r) (8 + 8 * j) 2 + 1)) hd j hj ) (cwV 0 F.2.2.2.2 gX6_decide_X6_clearHeight rfl rfl rfl (by decide +kernel) ⟨Nat.le_of_ble_eq_true rfl, Nat.le_of_ble_eq_true rfl⟩) (z_preV hK hZ (8 + 8 * j) (hd _ (by omega)) (shp_seat j hj) (by decide) rfl _) rfl rfl hl.1 rfl (lv_room (Nat.le_of_ble_eq_true rfl)) dX6_decide_24 ⟨Nat.le_of_ble_eq_true rfl, Nat.le_of_ble_eq_true rfl⟩) (fun H locs hZ => ?_)
  exact z_vret F hr hlocks hZ (by unfold cDec; rw [n2]) dX6_decide_27 (by omega) (by omega)

theorem mX6_isDone_47 : Cond.fieldLink RX6 47 "LockedChain$Seat" "height" "I" ∈ wsX6_isDone := by decide +kernel
set_option maxHeartbeats 4000000 in
set_option maxRecDepth 100000 in
theorem k_X6_isDone (l : Launch) (w : zW) (dom : Nat → Prop) (A : Nat → Prop) (hDA : ∀ i, dom i → A (w.2.1 + i)) (sz : Nat) (G : zM) (hd : ∀ i, i < 64 → dom i) (j : Nat) (hj : j < 7) : Met l yX6_isDone wsX6_isDone { frames := 0, cells := 0, slots := 0, locals := 0 } (zPre w dom sz G [.ref (w.2.1 + (8 + 8 * j))]) (zQi w dom sz (bI (6 ≤ G (8 + 8 * j) 2)) (fun C => C = G) A) (0) (0) A := by
  refine Met.ofW (cc := cX6_isDone) (maxL := 1) (ret := (some .boolean)) (by decide) rfl ?_
  intro p e s m args below meth c s₁ B hml hv
  obtain ⟨rfl, hsz, hP, hK⟩ := hv
  have F : CallFix p m c cX6_isDone 1 s _ wsX6_isDone RX6 := ⟨B.exec, B.bytes, hml, findClass_of_methodNamed B.named, atoms_spec (ws := wsX6_isDone) B.pre⟩
  have hr := B.returns
  have hlocks := B.notSynchronized
  have hZ : Zs w dom A s.heap sz G s.heap [] := ⟨hsz, hP, va_S.rf⟩
  have hl := lv_entry ([.ref (w.2.1 + (8 + 8 * j))]) (n := 1) (Nat.le_of_ble_eq_true rfl)
  rw [lg_entry_eq]
  generalize (lg_sl ([.ref (w.2.1 + (8 + 8 * j))]) ++ List.replicate (1 - (lg_sl ([.ref (w.2.1 + (8 + 8 * j))])).length) Slot.unset).toArray = ls at hl ⊢
  have hl : lv_has ls 1 [(0, .ref (w.2.1 + (8 + 8 * j)))] := hl
  have hin6 : ∀ v ∈ u_ws RX6 TX6 15, v ∈ wsX6_isDone := by decide +kernel
  refine z_aload_n F dX6_isDone_0 rfl (lv_at hl 0 rfl) ?_
  refine z_get F hK hZ (8 + 8 * j) (hd _ (by omega)) (shp_seat j hj) (by decide) rfl hin6 2 (by decide) mX6_isDone_47 rfl rfl dX6_isDone_1 ?_
  have r_1 := hZ.2.1.1 (8 + 8 * j) (2)
  refine z_bipush F (by decide) dX6_isDone_4 ?_
  refine z_icmp_lt (tgt := 13) F (by omega) (by omega) dX6_isDone_6 (by decide) (fun c_6 => ?_) (fun c_6 => ?_)
  · skip
    refine z_iconst F dX6_isDone_13 ?_
    exact z_zret F hr hlocks hZ (by first | rfl | omega | (simp only [bI]; omega) | (simp only [bI]; split <;> omega)) (by omega) rfl dX6_isDone_14 (by omega) (by omega)
  · skip
    refine z_iconst F dX6_isDone_9 ?_
    refine lv_goto (tgt := 14) F.1 F.2.1 dX6_isDone_10 (by decide) ?_
    exact z_zret F hr hlocks hZ (by first | rfl | omega | (simp only [bI]; omega) | (simp only [bI]; split <;> omega)) (by omega) rfl dX6_isDone_14 (by omega) (by omega)

theorem mX6_take_28 : Cond.fieldLink RX6 28 "LockedChain$Seat" "held" "[Z" ∈ wsX6_take := by decide +kernel
theorem mX6_take_50 : Cond.fieldLink RX6 50 "LockedChain$Seat" "heldValues" "I" ∈ wsX6_take := by decide +kernel
set_option maxHeartbeats 4000000 in
set_option maxRecDepth 100000 in
theorem k_X6_take (l : Launch) (w : zW) (dom : Nat → Prop) (A : Nat → Prop) (hDA : ∀ i, dom i → A (w.2.1 + i)) (sz : Nat) (G : zM) (hd : ∀ i, i < 64 → dom i) (j : Nat) (hj : j < 7) (v : Int) (hv : 0 ≤ v ∧ v < 100) (h9 : 0 ≤ G (8 + 8 * j) 9 ∧ G (8 + 8 * j) 9 ≤ 100) : Met l yX6_take wsX6_take { frames := 0, cells := 0, slots := 0, locals := 0 } (zPre w dom sz G [.ref (w.2.1 + (8 + 8 * j)), .int (zI (v))]) (zQi w dom sz ((if G (8 + 8 * j + 6) v ≠ 0 then 0 else 1)) (fun C => C = cTake G j v) A) (0) (0) A := by
  refine Met.ofW (cc := cX6_take) (maxL := 2) (ret := (some .boolean)) (by decide) rfl ?_
  intro p e s m args below meth c s₁ B hml hv
  obtain ⟨rfl, hsz, hP, hK⟩ := hv
  have F : CallFix p m c cX6_take 2 s _ wsX6_take RX6 := ⟨B.exec, B.bytes, hml, findClass_of_methodNamed B.named, atoms_spec (ws := wsX6_take) B.pre⟩
  have hr := B.returns
  have hlocks := B.notSynchronized
  have hZ : Zs w dom A s.heap sz G s.heap [] := ⟨hsz, hP, va_S.rf⟩
  have hl := lv_entry ([.ref (w.2.1 + (8 + 8 * j)), .int (zI (v))]) (n := 2) (Nat.le_of_ble_eq_true rfl)
  rw [lg_entry_eq]
  generalize (lg_sl ([.ref (w.2.1 + (8 + 8 * j)), .int (zI (v))]) ++ List.replicate (2 - (lg_sl ([.ref (w.2.1 + (8 + 8 * j)), .int (zI (v))])).length) Slot.unset).toArray = ls at hl ⊢
  have hl : lv_has ls 2 [(0, .ref (w.2.1 + (8 + 8 * j))), (1, .int (zI (v)))] := hl
  have hin6 : ∀ v ∈ u_ws RX6 TX6 15, v ∈ wsX6_take := by decide +kernel
  refine z_iload_n F dX6_take_0 rfl (lv_at hl 1 rfl) ?_
  refine z_if_lt (tgt := 22) F (by omega) dX6_take_1 (by decide) (fun c_1 => ?_) (fun c_1 => ?_)
  · skip
    refine z_iconst F dX6_take_22 ?_
    exact z_zret F hr hlocks hZ (by first | (exfalso; omega) | rw [if_pos (by omega)] | rw [if_neg (by omega)]) (by omega) (by first | (exfalso; omega) | (unfold cTake; rw [if_pos c_19]; done) | (unfold cTake; rw [if_neg (by omega)])) dX6_take_23 (by omega) (by omega)
  · skip
    refine z_iload_n F dX6_take_4 rfl (lv_at hl 1 rfl) ?_
    refine z_aload_n F dX6_take_5 rfl (lv_at hl 0 rfl) ?_
    refine z_get F hK hZ (8 + 8 * j) (hd _ (by omega)) (shp_seat j hj) (by decide) rfl hin6 13 (by decide) mX6_take_28 rfl rfl dX6_take_6 ?_
    refine z_alen F hK hZ (8 + 8 * j + 6) (hd _ (by omega)) (by decide) (shp_held j hj) dX6_take_9 ?_
    refine z_icmp_ge (tgt := 22) F (by omega) (by omega) dX6_take_10 (by decide) (fun c_10 => ?_) (fun c_10 => ?_)
    · skip
      refine z_iconst F dX6_take_22 ?_
      exact z_zret F hr hlocks hZ (by first | (exfalso; omega) | rw [if_pos (by omega)] | rw [if_neg (by omega)]) (by omega) (by first | (exfalso; omega) | (unfold cTake; rw [if_pos c_19]; done) | (unfold cTake; rw [if_neg (by omega)])) dX6_take_23 (by omega) (by omega)
    · skip
      refine z_aload_n F dX6_take_13 rfl (lv_at hl 0 rfl) ?_
      refine z_get F hK hZ (8 + 8 * j) (hd _ (by omega)) (shp_seat j hj) (by decide) rfl hin6 13 (by decide) mX6_take_28 rfl rfl dX6_take_14 ?_
      refine z_iload_n F dX6_take_17 rfl (lv_at hl 1 rfl) ?_
      refine z_zald F hK hZ (8 + 8 * j + 6) (hd _ (by omega)) (shp_held j hj) (by decide) (by omega) (by omega) dX6_take_18 ?_
      have r_1 := hZ.2.1.1 (8 + 8 * j + 6) (v)
      refine z_if_eq (tgt := 24) F (by omega) dX6_take_19 (by decide) (fun c_19 => ?_) (fun c_19 => ?_)
      · skip
        refine z_aload_n F dX6_take_24 rfl (lv_at hl 0 rfl) ?_
        refine z_get F hK hZ (8 + 8 * j) (hd _ (by omega)) (shp_seat j hj) (by decide) rfl hin6 13 (by decide) mX6_take_28 rfl rfl dX6_take_25 ?_
        refine z_iload_n F dX6_take_28 rfl (lv_at hl 1 rfl) ?_
        refine z_iconst F dX6_take_29 ?_
        refine z_zast F hK hZ hDA (8 + 8 * j + 6) (hd _ (by omega)) (shp_held j hj) (by decide) (by omega) (by omega) (by omega) dX6_take_30 (fun H locs hZ => ?_)
        refine z_aload_n F dX6_take_31 rfl (lv_at hl 0 rfl) ?_
        refine lv_dup F.1 F.2.1 dX6_take_32 rfl ?_
        refine z_get (v := .int (zI (G (8 + 8 * j) 9))) F hK hZ (8 + 8 * j) (hd _ (by omega)) (shp_seat j hj) (by decide) rfl hin6 9 (by decide) mX6_take_50 rfl (by simp [up, zFs]) dX6_take_33 ?_
        have r_2 : -2147483648 ≤ G (8 + 8 * j) (9) ∧ G (8 + 8 * j) (9) < 2147483648 := (by simpa [up] using hZ.2.1.1 (8 + 8 * j) (9))
        refine z_iconst F dX6_take_36 ?_
        refine z_iadd F dX6_take_37 ?_
        refine z_put (z := G (8 + 8 * j) 9 + 1) F hK hZ hDA (8 + 8 * j) (hd _ (by omega)) (shp_seat j hj) (by decide) rfl hin6 tyX6 tyX6_ok nmX6 9 (by decide) mX6_take_50 rfl rfl rfl rfl (by omega) (kz := 9) rfl rfl (Nat.le_of_ble_eq_true rfl) dX6_take_38 (fun H locs hZ => ?_)
        refine z_iconst F dX6_take_41 ?_
        exact z_zret F hr hlocks hZ (by first | (exfalso; omega) | rw [if_pos (by omega)] | rw [if_neg (by omega)]) (by omega) (by first | (exfalso; omega) | (unfold cTake; rw [if_pos c_19]; done) | (unfold cTake; rw [if_neg (by omega)])) dX6_take_42 (by omega) (by omega)
      · skip
        refine z_iconst F dX6_take_22 ?_
        exact z_zret F hr hlocks hZ (by first | (exfalso; omega) | rw [if_pos (by omega)] | rw [if_neg (by omega)]) (by omega) (by first | (exfalso; omega) | (unfold cTake; rw [if_pos c_19]; done) | (unfold cTake; rw [if_neg (by omega)])) dX6_take_23 (by omega) (by omega)

theorem mX6_leastRightValue_24 : Cond.fieldLink RX6 24 "LockedChain$Seat" "chain" "LLockedChain$Chain;" ∈ wsX6_leastRightValue := by decide +kernel
theorem mX6_leastRightValue_28 : Cond.fieldLink RX6 28 "LockedChain$Seat" "held" "[Z" ∈ wsX6_leastRightValue := by decide +kernel
set_option maxHeartbeats 4000000 in
set_option maxRecDepth 100000 in
theorem k_X6_leastRightValue (l : Launch) (w : zW) (dom : Nat → Prop) (A : Nat → Prop) (hDA : ∀ i, dom i → A (w.2.1 + i)) (sz : Nat) (G : zM) (hd : ∀ i, i < 64 → dom i) (j : Nat) (hj : j < 7) : Met l yX6_leastRightValue wsX6_leastRightValue { frames := 1, cells := 0, slots := 0, locals := 22 } (zPre w dom sz G [.ref (w.2.1 + (8 + 8 * j))]) (zQi w dom sz (cLeast G j) (fun C => C = G) A) (0) (0) A := by
  refine Met.ofW (cc := cX6_leastRightValue) (maxL := 2) (ret := (some .int)) (by decide) rfl ?_
  intro p e s m args below meth c s₁ B hml hv
  obtain ⟨rfl, hsz, hP, hK⟩ := hv
  have F : CallFix p m c cX6_leastRightValue 2 s _ wsX6_leastRightValue RX6 := ⟨B.exec, B.bytes, hml, findClass_of_methodNamed B.named, atoms_spec (ws := wsX6_leastRightValue) B.pre⟩
  have hr := B.returns
  have hlocks := B.notSynchronized
  have hZ : Zs w dom A s.heap sz G s.heap [] := ⟨hsz, hP, va_S.rf⟩
  have hl := lv_entry ([.ref (w.2.1 + (8 + 8 * j))]) (n := 2) (Nat.le_of_ble_eq_true rfl)
  rw [lg_entry_eq]
  generalize (lg_sl ([.ref (w.2.1 + (8 + 8 * j))]) ++ List.replicate (2 - (lg_sl ([.ref (w.2.1 + (8 + 8 * j))])).length) Slot.unset).toArray = ls at hl ⊢
  have hl : lv_has ls 2 [(0, .ref (w.2.1 + (8 + 8 * j)))] := hl
  have hin6 : ∀ v ∈ u_ws RX6 TX6 15, v ∈ wsX6_leastRightValue := by decide +kernel
  refine z_iconst F dX6_leastRightValue_0 ?_
  refine z_istore_n (lv' := [(1, .int (zI (1))), (0, .ref (w.2.1 + (8 + 8 * j)))]) F dX6_leastRightValue_1 rfl hl (by decide) rfl (fun ls hl => ?_)
  have L_2 : ∀ (nf : Nat) (i : Nat), (101 ≤ i + nf) → (1 ≤ i ∧ i ≤ 100) → (fstB (cLeastP G j) (100 - i) i = fstB (cLeastP G j) 99 1) →  ∀ (H : Heap) (locs : List Loc) (ls : Array Slot), Zs w dom A s.heap sz G H locs → lv_has ls 2 [(0, .ref (w.2.1 + (8 + 8 * j))), (1, .int (zI ((i : Int))))] → W p l e (headSpec wsX6_leastRightValue { frames := 1, cells := 0, slots := 0, locals := 22 }).room s m ([.ref (w.2.1 + (8 + 8 * j))] : List Value).toArray below meth c H locs (0) (0) (MQ below (zQi w dom sz (cLeast G j) (fun C => C = G) A) ([.ref (w.2.1 + (8 + 8 * j))] : List Value).toArray s (0) (0) A) (F0 m 2 ls []) := by
    intro nf
    induction nf with
    | zero => intro i  h2_0 h2_1 h2_2; exact absurd h2_0 (by omega)
    | succ nf ih_2 =>
      intro i  h2_0 h2_1 h2_2 H locs ls hZ hl
      refine z_iload_n F dX6_leastRightValue_2 rfl (lv_at hl 1 rfl) ?_
      refine z_aload_n F dX6_leastRightValue_3 rfl (lv_at hl 0 rfl) ?_
      refine z_get F hK hZ (8 + 8 * j) (hd _ (by omega)) (shp_seat j hj) (by decide) rfl hin6 13 (by decide) mX6_leastRightValue_28 rfl rfl dX6_leastRightValue_4 ?_
      refine z_alen F hK hZ (8 + 8 * j + 6) (hd _ (by omega)) (by decide) (shp_held j hj) dX6_leastRightValue_7 ?_
      refine z_icmp_ge (tgt := 39) F (by omega) (by omega) dX6_leastRightValue_8 (by decide) (fun c_8 => ?_) (fun c_8 => ?_)
      · skip
        refine z_iconst F dX6_leastRightValue_39 ?_
        exact z_iret F hr hlocks hZ (by unfold cLeast; rw [← h2_2, show 100 - i = 0 by omega]; rfl) rfl dX6_leastRightValue_40 (by omega) (by omega)
      · skip
        refine z_aload_n F dX6_leastRightValue_11 rfl (lv_at hl 0 rfl) ?_
        refine z_get F hK hZ (8 + 8 * j) (hd _ (by omega)) (shp_seat j hj) (by decide) rfl hin6 13 (by decide) mX6_leastRightValue_28 rfl rfl dX6_leastRightValue_12 ?_
        refine z_iload_n F dX6_leastRightValue_15 rfl (lv_at hl 1 rfl) ?_
        refine z_zald F hK hZ (8 + 8 * j + 6) (hd _ (by omega)) (shp_held j hj) (by decide) (by omega) (by omega) dX6_leastRightValue_16 ?_
        have r_1 := hZ.2.1.1 (8 + 8 * j + 6) ((i : Int))
        refine z_if_eq (tgt := 33) F (by omega) dX6_leastRightValue_17 (by decide) (fun c_17 => ?_) (fun c_17 => ?_)
        · skip
          refine z_iinc (k := 1) (z := (i : Int)) (lv' := [(1, .int (zI ((i : Int) + 1))), (0, .ref (w.2.1 + (8 + 8 * j)))]) F dX6_leastRightValue_33 hl rfl (by decide) rfl (fun ls hl => ?_)
          refine lv_goto (tgt := 2) F.1 F.2.1 dX6_leastRightValue_36 (by decide) ?_
          exact ih_2 (i + 1) (by omega) (by omega) (by rw [← h2_2, fstB_f (k := 100 - i) (i := i) (by omega) (by unfold cLeastP; rw [Bool.and_eq_true, decide_eq_true_eq]; first | exact fun q => q.1 c_17 | exact fun q => c_28 q.2), Nat.sub_sub]) _ _ _ hZ (lv_sub hl [1, 0] rfl)
        · skip
          refine z_aload_n F dX6_leastRightValue_20 rfl (lv_at hl 0 rfl) ?_
          refine z_get F hK hZ (8 + 8 * j) (hd _ (by omega)) (shp_seat j hj) (by decide) rfl hin6 12 (by decide) mX6_leastRightValue_24 rfl rfl dX6_leastRightValue_21 ?_
          refine z_iload_n F dX6_leastRightValue_24 rfl (lv_at hl 1 rfl) ?_
          refine z_bxi hZ (va_runV (As := [.int (zI ((i : Int)))]) (rest := []) F (k_X0_isRight l w dom A hDA sz G hd j hj ((i : Int)) (by omega)) (cwV 1 F.2.2.2.2 gX6_leastRightValue_X0_isRight rfl rfl rfl (by decide +kernel) ⟨Nat.le_of_ble_eq_true rfl, Nat.le_of_ble_eq_true rfl⟩) (z_preV hK hZ (8 + 8 * j + 3) (hd _ (by omega)) (shp_chain j hj) (by decide) rfl _) rfl rfl hl.1 rfl (lv_room (Nat.le_of_ble_eq_true rfl)) dX6_leastRightValue_25 ⟨Nat.le_of_ble_eq_true rfl, Nat.le_of_ble_eq_true rfl⟩) (fun H locs hZ => ?_)
          refine z_ifB_eq (tgt := 33) F dX6_leastRightValue_28 (by decide) (fun c_28 => ?_) (fun c_28 => ?_)
          · skip
            refine z_iinc (k := 1) (z := (i : Int)) (lv' := [(1, .int (zI ((i : Int) + 1))), (0, .ref (w.2.1 + (8 + 8 * j)))]) F dX6_leastRightValue_33 hl rfl (by decide) rfl (fun ls hl => ?_)
            refine lv_goto (tgt := 2) F.1 F.2.1 dX6_leastRightValue_36 (by decide) ?_
            exact ih_2 (i + 1) (by omega) (by omega) (by rw [← h2_2, fstB_f (k := 100 - i) (i := i) (by omega) (by unfold cLeastP; rw [Bool.and_eq_true, decide_eq_true_eq]; first | exact fun q => q.1 c_17 | exact fun q => c_28 q.2), Nat.sub_sub]) _ _ _ hZ (lv_sub hl [1, 0] rfl)
          · skip
            refine z_iload_n F dX6_leastRightValue_31 rfl (lv_at hl 1 rfl) ?_
            exact z_iret F hr hlocks hZ (by unfold cLeast; rw [← h2_2, fstB_t (by omega) (by unfold cLeastP; rw [Bool.and_eq_true, decide_eq_true_eq]; exact ⟨c_17, c_28⟩)]; rfl) rfl dX6_leastRightValue_32 (by omega) (by omega)
  exact L_2 101 1 (by omega) (by omega) rfl _ _ _ hZ (lv_sub hl [1, 0] rfl)

theorem mX6_moment_47 : Cond.fieldLink RX6 47 "LockedChain$Seat" "height" "I" ∈ wsX6_moment := by decide +kernel
theorem mX6_moment_71 : Cond.fieldLink RX6 71 "LockedChain$Seat" "round" "I" ∈ wsX6_moment := by decide +kernel
set_option maxHeartbeats 4000000 in
set_option maxRecDepth 100000 in
theorem k_X6_moment (l : Launch) (w : zW) (dom : Nat → Prop) (A : Nat → Prop) (hDA : ∀ i, dom i → A (w.2.1 + i)) (sz : Nat) (G : zM) (hd : ∀ i, i < 64 → dom i) (j : Nat) (hj : j < 7) : Met l yX6_moment wsX6_moment { frames := 0, cells := 0, slots := 0, locals := 0 } (zPre w dom sz G [.ref (w.2.1 + (8 + 8 * j))]) (zQi w dom sz (cMom G j) (fun C => C = G) A) (0) (0) A := by
  refine Met.ofW (cc := cX6_moment) (maxL := 1) (ret := (some .int)) (by decide) rfl ?_
  intro p e s m args below meth c s₁ B hml hv
  obtain ⟨rfl, hsz, hP, hK⟩ := hv
  have F : CallFix p m c cX6_moment 1 s _ wsX6_moment RX6 := ⟨B.exec, B.bytes, hml, findClass_of_methodNamed B.named, atoms_spec (ws := wsX6_moment) B.pre⟩
  have hr := B.returns
  have hlocks := B.notSynchronized
  have hZ : Zs w dom A s.heap sz G s.heap [] := ⟨hsz, hP, va_S.rf⟩
  have hl := lv_entry ([.ref (w.2.1 + (8 + 8 * j))]) (n := 1) (Nat.le_of_ble_eq_true rfl)
  rw [lg_entry_eq]
  generalize (lg_sl ([.ref (w.2.1 + (8 + 8 * j))]) ++ List.replicate (1 - (lg_sl ([.ref (w.2.1 + (8 + 8 * j))])).length) Slot.unset).toArray = ls at hl ⊢
  have hl : lv_has ls 1 [(0, .ref (w.2.1 + (8 + 8 * j)))] := hl
  have hin6 : ∀ v ∈ u_ws RX6 TX6 15, v ∈ wsX6_moment := by decide +kernel
  refine z_aload_n F dX6_moment_0 rfl (lv_at hl 0 rfl) ?_
  refine z_get F hK hZ (8 + 8 * j) (hd _ (by omega)) (shp_seat j hj) (by decide) rfl hin6 2 (by decide) mX6_moment_47 rfl rfl dX6_moment_1 ?_
  have r_1 := hZ.2.1.1 (8 + 8 * j) (2)
  refine z_bipush F (by decide) dX6_moment_4 ?_
  refine z_imul F dX6_moment_6 ?_
  refine z_aload_n F dX6_moment_7 rfl (lv_at hl 0 rfl) ?_
  refine z_get F hK hZ (8 + 8 * j) (hd _ (by omega)) (shp_seat j hj) (by decide) rfl hin6 3 (by decide) mX6_moment_71 rfl rfl dX6_moment_8 ?_
  have r_2 := hZ.2.1.1 (8 + 8 * j) (3)
  refine z_iadd F dX6_moment_11 ?_
  exact z_iret F hr hlocks hZ (by first | rfl | omega | (simp only [bI]; omega) | (simp only [bI]; split <;> omega)) rfl dX6_moment_12 (by omega) (by omega)

theorem mX6_set_32 : Cond.fieldLink RX6 32 "LockedChain$Seat" "timers" "[I" ∈ wsX6_set := by decide +kernel
set_option maxHeartbeats 4000000 in
set_option maxRecDepth 100000 in
theorem k_X6_set (l : Launch) (w : zW) (dom : Nat → Prop) (A : Nat → Prop) (hDA : ∀ i, dom i → A (w.2.1 + i)) (sz : Nat) (G : zM) (hd : ∀ i, i < 64 → dom i) (j : Nat) (hj : j < 7) (hh : 0 ≤ G (8 + 8 * j) 2 ∧ G (8 + 8 * j) 2 ≤ 6) (hr : 0 ≤ G (8 + 8 * j) 3 ∧ G (8 + 8 * j) 3 ≤ 9) (k : Int) (hk : 0 ≤ k ∧ k < 3) : Met l yX6_set wsX6_set { frames := 1, cells := 0, slots := 0, locals := 20 } (zPre w dom sz G [.ref (w.2.1 + (8 + 8 * j)), .int (zI (k))]) (zQv w dom sz (fun C => C = up G (8 + 8 * j + 7) k (cMom G j)) A) (0) (0) A := by
  refine Met.ofW (cc := cX6_set) (maxL := 2) (ret := none) (by decide) rfl ?_
  intro p e s m args below meth c s₁ B hml hv
  obtain ⟨rfl, hsz, hP, hK⟩ := hv
  have F : CallFix p m c cX6_set 2 s _ wsX6_set RX6 := ⟨B.exec, B.bytes, hml, findClass_of_methodNamed B.named, atoms_spec (ws := wsX6_set) B.pre⟩
  have hr := B.returns
  have hlocks := B.notSynchronized
  have hZ : Zs w dom A s.heap sz G s.heap [] := ⟨hsz, hP, va_S.rf⟩
  have hl := lv_entry ([.ref (w.2.1 + (8 + 8 * j)), .int (zI (k))]) (n := 2) (Nat.le_of_ble_eq_true rfl)
  rw [lg_entry_eq]
  generalize (lg_sl ([.ref (w.2.1 + (8 + 8 * j)), .int (zI (k))]) ++ List.replicate (2 - (lg_sl ([.ref (w.2.1 + (8 + 8 * j)), .int (zI (k))])).length) Slot.unset).toArray = ls at hl ⊢
  have hl : lv_has ls 2 [(0, .ref (w.2.1 + (8 + 8 * j))), (1, .int (zI (k)))] := hl
  have hin6 : ∀ v ∈ u_ws RX6 TX6 15, v ∈ wsX6_set := by decide +kernel
  have hmm : cMom G j = G (8 + 8 * j) 2 * 10 + G (8 + 8 * j) 3 := rfl
  refine z_iload_n F dX6_set_0 rfl (lv_at hl 1 rfl) ?_
  refine z_if_lt (tgt := 23) F (by omega) dX6_set_1 (by decide) (fun c_1 => ?_) (fun c_1 => ?_)
  · skip
    exact z_vret F hr hlocks hZ (by first | rfl | (exfalso; omega)) dX6_set_23 (by omega) (by omega)
  · skip
    refine z_iload_n F dX6_set_4 rfl (lv_at hl 1 rfl) ?_
    refine z_aload_n F dX6_set_5 rfl (lv_at hl 0 rfl) ?_
    refine z_get F hK hZ (8 + 8 * j) (hd _ (by omega)) (shp_seat j hj) (by decide) rfl hin6 14 (by decide) mX6_set_32 rfl rfl dX6_set_6 ?_
    refine z_alen F hK hZ (8 + 8 * j + 7) (hd _ (by omega)) (by decide) (shp_tims j hj) dX6_set_9 ?_
    refine z_icmp_ge (tgt := 23) F (by omega) (by omega) dX6_set_10 (by decide) (fun c_10 => ?_) (fun c_10 => ?_)
    · skip
      exact z_vret F hr hlocks hZ (by first | rfl | (exfalso; omega)) dX6_set_23 (by omega) (by omega)
    · skip
      refine z_aload_n F dX6_set_13 rfl (lv_at hl 0 rfl) ?_
      refine z_get F hK hZ (8 + 8 * j) (hd _ (by omega)) (shp_seat j hj) (by decide) rfl hin6 14 (by decide) mX6_set_32 rfl rfl dX6_set_14 ?_
      refine z_iload_n F dX6_set_17 rfl (lv_at hl 1 rfl) ?_
      refine z_aload_n F dX6_set_18 rfl (lv_at hl 0 rfl) ?_
      refine z_bxi hZ (va_runV (As := []) (rest := [.int (zI (k)), .ref (w.2.1 + (8 + 8 * j + 7))]) F (k_X6_moment l w dom A hDA sz G hd j hj ) (cwV 0 F.2.2.2.2 gX6_set_X6_moment rfl rfl rfl (by decide +kernel) ⟨Nat.le_of_ble_eq_true rfl, Nat.le_of_ble_eq_true rfl⟩) (z_preV hK hZ (8 + 8 * j) (hd _ (by omega)) (shp_seat j hj) (by decide) rfl _) rfl rfl hl.1 rfl (lv_room (Nat.le_of_ble_eq_true rfl)) dX6_set_19 ⟨Nat.le_of_ble_eq_true rfl, Nat.le_of_ble_eq_true rfl⟩) (fun H locs hZ => ?_)
      refine z_iast F hK hZ hDA (8 + 8 * j + 7) (hd _ (by omega)) (shp_tims j hj) (by decide) (by omega) (by omega) (by omega) dX6_set_22 (fun H locs hZ => ?_)
      exact z_vret F hr hlocks hZ (by first | rfl | (exfalso; omega)) dX6_set_23 (by omega) (by omega)

theorem mX6_isSet_32 : Cond.fieldLink RX6 32 "LockedChain$Seat" "timers" "[I" ∈ wsX6_isSet := by decide +kernel
set_option maxHeartbeats 4000000 in
set_option maxRecDepth 100000 in
theorem k_X6_isSet (l : Launch) (w : zW) (dom : Nat → Prop) (A : Nat → Prop) (hDA : ∀ i, dom i → A (w.2.1 + i)) (sz : Nat) (G : zM) (hd : ∀ i, i < 64 → dom i) (j : Nat) (hj : j < 7) (k : Int) (hk : 0 ≤ k ∧ k < 3) : Met l yX6_isSet wsX6_isSet { frames := 0, cells := 0, slots := 0, locals := 0 } (zPre w dom sz G [.ref (w.2.1 + (8 + 8 * j)), .int (zI (k))]) (zQi w dom sz (bI (G (8 + 8 * j + 7) k ≠ -1)) (fun C => C = G) A) (0) (0) A := by
  refine Met.ofW (cc := cX6_isSet) (maxL := 2) (ret := (some .boolean)) (by decide) rfl ?_
  intro p e s m args below meth c s₁ B hml hv
  obtain ⟨rfl, hsz, hP, hK⟩ := hv
  have F : CallFix p m c cX6_isSet 2 s _ wsX6_isSet RX6 := ⟨B.exec, B.bytes, hml, findClass_of_methodNamed B.named, atoms_spec (ws := wsX6_isSet) B.pre⟩
  have hr := B.returns
  have hlocks := B.notSynchronized
  have hZ : Zs w dom A s.heap sz G s.heap [] := ⟨hsz, hP, va_S.rf⟩
  have hl := lv_entry ([.ref (w.2.1 + (8 + 8 * j)), .int (zI (k))]) (n := 2) (Nat.le_of_ble_eq_true rfl)
  rw [lg_entry_eq]
  generalize (lg_sl ([.ref (w.2.1 + (8 + 8 * j)), .int (zI (k))]) ++ List.replicate (2 - (lg_sl ([.ref (w.2.1 + (8 + 8 * j)), .int (zI (k))])).length) Slot.unset).toArray = ls at hl ⊢
  have hl : lv_has ls 2 [(0, .ref (w.2.1 + (8 + 8 * j))), (1, .int (zI (k)))] := hl
  have hin6 : ∀ v ∈ u_ws RX6 TX6 15, v ∈ wsX6_isSet := by decide +kernel
  refine z_iload_n F dX6_isSet_0 rfl (lv_at hl 1 rfl) ?_
  refine z_if_lt (tgt := 27) F (by omega) dX6_isSet_1 (by decide) (fun c_1 => ?_) (fun c_1 => ?_)
  · skip
    refine z_iconst F dX6_isSet_27 ?_
    exact z_zret F hr hlocks hZ (by first | exact bI_1 c_20 | exact bI_0 (fun q => q c_20) | (exfalso; omega)) (by omega) rfl dX6_isSet_28 (by omega) (by omega)
  · skip
    refine z_iload_n F dX6_isSet_4 rfl (lv_at hl 1 rfl) ?_
    refine z_aload_n F dX6_isSet_5 rfl (lv_at hl 0 rfl) ?_
    refine z_get F hK hZ (8 + 8 * j) (hd _ (by omega)) (shp_seat j hj) (by decide) rfl hin6 14 (by decide) mX6_isSet_32 rfl rfl dX6_isSet_6 ?_
    refine z_alen F hK hZ (8 + 8 * j + 7) (hd _ (by omega)) (by decide) (shp_tims j hj) dX6_isSet_9 ?_
    refine z_icmp_ge (tgt := 27) F (by omega) (by omega) dX6_isSet_10 (by decide) (fun c_10 => ?_) (fun c_10 => ?_)
    · skip
      refine z_iconst F dX6_isSet_27 ?_
      exact z_zret F hr hlocks hZ (by first | exact bI_1 c_20 | exact bI_0 (fun q => q c_20) | (exfalso; omega)) (by omega) rfl dX6_isSet_28 (by omega) (by omega)
    · skip
      refine z_aload_n F dX6_isSet_13 rfl (lv_at hl 0 rfl) ?_
      refine z_get F hK hZ (8 + 8 * j) (hd _ (by omega)) (shp_seat j hj) (by decide) rfl hin6 14 (by decide) mX6_isSet_32 rfl rfl dX6_isSet_14 ?_
      refine z_iload_n F dX6_isSet_17 rfl (lv_at hl 1 rfl) ?_
      refine z_iald F hK hZ (8 + 8 * j + 7) (hd _ (by omega)) (shp_tims j hj) (by decide) (by omega) (by omega) dX6_isSet_18 ?_
      have r_1 := hZ.2.1.1 (8 + 8 * j + 7) (k)
      refine z_iconst F dX6_isSet_19 ?_
      refine z_icmp_eq (tgt := 27) F (by omega) (by omega) dX6_isSet_20 (by decide) (fun c_20 => ?_) (fun c_20 => ?_)
      · skip
        refine z_iconst F dX6_isSet_27 ?_
        exact z_zret F hr hlocks hZ (by first | exact bI_1 c_20 | exact bI_0 (fun q => q c_20) | (exfalso; omega)) (by omega) rfl dX6_isSet_28 (by omega) (by omega)
      · skip
        refine z_iconst F dX6_isSet_23 ?_
        refine lv_goto (tgt := 28) F.1 F.2.1 dX6_isSet_24 (by decide) ?_
        exact z_zret F hr hlocks hZ (by first | exact bI_1 c_20 | exact bI_0 (fun q => q c_20) | (exfalso; omega)) (by omega) rfl dX6_isSet_28 (by omega) (by omega)

theorem mX6_unset_32 : Cond.fieldLink RX6 32 "LockedChain$Seat" "timers" "[I" ∈ wsX6_unset := by decide +kernel
set_option maxHeartbeats 4000000 in
set_option maxRecDepth 100000 in
theorem k_X6_unset (l : Launch) (w : zW) (dom : Nat → Prop) (A : Nat → Prop) (hDA : ∀ i, dom i → A (w.2.1 + i)) (sz : Nat) (G : zM) (hd : ∀ i, i < 64 → dom i) (j : Nat) (hj : j < 7) (hh : 0 ≤ G (8 + 8 * j) 2 ∧ G (8 + 8 * j) 2 ≤ 6) (hr : 0 ≤ G (8 + 8 * j) 3 ∧ G (8 + 8 * j) 3 ≤ 9) (k : Int) (hk : 0 ≤ k ∧ k < 3) : Met l yX6_unset wsX6_unset { frames := 1, cells := 0, slots := 0, locals := 21 } (zPre w dom sz G [.ref (w.2.1 + (8 + 8 * j)), .int (zI (k))]) (zQi w dom sz (bI (G (8 + 8 * j + 7) k ≠ -1 ∧ G (8 + 8 * j + 7) k = cMom G j)) (fun C => C = cUns G j k) A) (0) (0) A := by
  refine Met.ofW (cc := cX6_unset) (maxL := 3) (ret := (some .boolean)) (by decide) rfl ?_
  intro p e s m args below meth c s₁ B hml hv
  obtain ⟨rfl, hsz, hP, hK⟩ := hv
  have F : CallFix p m c cX6_unset 3 s _ wsX6_unset RX6 := ⟨B.exec, B.bytes, hml, findClass_of_methodNamed B.named, atoms_spec (ws := wsX6_unset) B.pre⟩
  have hr := B.returns
  have hlocks := B.notSynchronized
  have hZ : Zs w dom A s.heap sz G s.heap [] := ⟨hsz, hP, va_S.rf⟩
  have hl := lv_entry ([.ref (w.2.1 + (8 + 8 * j)), .int (zI (k))]) (n := 3) (Nat.le_of_ble_eq_true rfl)
  rw [lg_entry_eq]
  generalize (lg_sl ([.ref (w.2.1 + (8 + 8 * j)), .int (zI (k))]) ++ List.replicate (3 - (lg_sl ([.ref (w.2.1 + (8 + 8 * j)), .int (zI (k))])).length) Slot.unset).toArray = ls at hl ⊢
  have hl : lv_has ls 3 [(0, .ref (w.2.1 + (8 + 8 * j))), (1, .int (zI (k)))] := hl
  have hin6 : ∀ v ∈ u_ws RX6 TX6 15, v ∈ wsX6_unset := by decide +kernel
  have hmm : cMom G j = G (8 + 8 * j) 2 * 10 + G (8 + 8 * j) 3 := rfl
  refine z_aload_n F dX6_unset_0 rfl (lv_at hl 0 rfl) ?_
  refine z_iload_n F dX6_unset_1 rfl (lv_at hl 1 rfl) ?_
  refine z_bxi hZ (va_runV (As := [.int (zI (k))]) (rest := []) F (k_X6_isSet l w dom A hDA sz G hd j hj k (by omega)) (cwV 1 F.2.2.2.2 gX6_unset_X6_isSet rfl rfl rfl (by decide +kernel) ⟨Nat.le_of_ble_eq_true rfl, Nat.le_of_ble_eq_true rfl⟩) (z_preV hK hZ (8 + 8 * j) (hd _ (by omega)) (shp_seat j hj) (by decide) rfl _) rfl rfl hl.1 rfl (lv_room (Nat.le_of_ble_eq_true rfl)) dX6_unset_2 ⟨Nat.le_of_ble_eq_true rfl, Nat.le_of_ble_eq_true rfl⟩) (fun H locs hZ => ?_)
  refine z_ifB_ne (tgt := 10) F dX6_unset_5 (by decide) (fun c_5 => ?_) (fun c_5 => ?_)
  · skip
    refine z_aload_n F dX6_unset_10 rfl (lv_at hl 0 rfl) ?_
    refine z_get F hK hZ (8 + 8 * j) (hd _ (by omega)) (shp_seat j hj) (by decide) rfl hin6 14 (by decide) mX6_unset_32 rfl rfl dX6_unset_11 ?_
    refine z_iload_n F dX6_unset_14 rfl (lv_at hl 1 rfl) ?_
    refine z_iald F hK hZ (8 + 8 * j + 7) (hd _ (by omega)) (shp_tims j hj) (by decide) (by omega) (by omega) dX6_unset_15 ?_
    have r_1 := hZ.2.1.1 (8 + 8 * j + 7) (k)
    refine z_aload_n F dX6_unset_16 rfl (lv_at hl 0 rfl) ?_
    refine z_bxi hZ (va_runV (As := []) (rest := [.int (zI (G (8 + 8 * j + 7) (k)))]) F (k_X6_moment l w dom A hDA sz G hd j hj ) (cwV 0 F.2.2.2.2 gX6_unset_X6_moment rfl rfl rfl (by decide +kernel) ⟨Nat.le_of_ble_eq_true rfl, Nat.le_of_ble_eq_true rfl⟩) (z_preV hK hZ (8 + 8 * j) (hd _ (by omega)) (shp_seat j hj) (by decide) rfl _) rfl rfl hl.1 rfl (lv_room (Nat.le_of_ble_eq_true rfl)) dX6_unset_17 ⟨Nat.le_of_ble_eq_true rfl, Nat.le_of_ble_eq_true rfl⟩) (fun H locs hZ => ?_)
    refine z_icmp_ne (tgt := 27) F (by omega) (by omega) dX6_unset_20 (by decide) (fun c_20 => ?_) (fun c_20 => ?_)
    · skip
      refine z_iconst F dX6_unset_27 ?_
      refine z_istore_n (lv' := [(2, .int (zI (0))), (0, .ref (w.2.1 + (8 + 8 * j))), (1, .int (zI (k)))]) F dX6_unset_28 rfl hl (by decide) rfl (fun ls hl => ?_)
      refine z_aload_n F dX6_unset_29 rfl (lv_at hl 1 rfl) ?_
      refine z_get F hK hZ (8 + 8 * j) (hd _ (by omega)) (shp_seat j hj) (by decide) rfl hin6 14 (by decide) mX6_unset_32 rfl rfl dX6_unset_30 ?_
      refine z_iload_n F dX6_unset_33 rfl (lv_at hl 2 rfl) ?_
      refine z_iconst F dX6_unset_34 ?_
      refine z_iast F hK hZ hDA (8 + 8 * j + 7) (hd _ (by omega)) (shp_tims j hj) (by decide) (by omega) (by omega) (by omega) dX6_unset_35 (fun H locs hZ => ?_)
      refine z_iload_n F dX6_unset_36 rfl (lv_at hl 0 rfl) ?_
      exact z_zret F hr hlocks hZ (by first | exact bI_1 ⟨c_5, c_20⟩ | exact bI_0 (fun q => c_20 q.2) | exact bI_0 (fun q => c_5 q.1)) (by omega) (by unfold cUns; first | rw [if_neg c_5] | rw [if_pos (Classical.not_not.mp c_5)]) dX6_unset_37 (by omega) (by omega)
    · skip
      refine z_iconst F dX6_unset_23 ?_
      refine lv_goto (tgt := 28) F.1 F.2.1 dX6_unset_24 (by decide) ?_
      refine z_istore_n (lv' := [(2, .int (zI (1))), (0, .ref (w.2.1 + (8 + 8 * j))), (1, .int (zI (k)))]) F dX6_unset_28 rfl hl (by decide) rfl (fun ls hl => ?_)
      refine z_aload_n F dX6_unset_29 rfl (lv_at hl 1 rfl) ?_
      refine z_get F hK hZ (8 + 8 * j) (hd _ (by omega)) (shp_seat j hj) (by decide) rfl hin6 14 (by decide) mX6_unset_32 rfl rfl dX6_unset_30 ?_
      refine z_iload_n F dX6_unset_33 rfl (lv_at hl 2 rfl) ?_
      refine z_iconst F dX6_unset_34 ?_
      refine z_iast F hK hZ hDA (8 + 8 * j + 7) (hd _ (by omega)) (shp_tims j hj) (by decide) (by omega) (by omega) (by omega) dX6_unset_35 (fun H locs hZ => ?_)
      refine z_iload_n F dX6_unset_36 rfl (lv_at hl 0 rfl) ?_
      exact z_zret F hr hlocks hZ (by first | exact bI_1 ⟨c_5, c_20⟩ | exact bI_0 (fun q => c_20 q.2) | exact bI_0 (fun q => c_5 q.1)) (by omega) (by unfold cUns; first | rw [if_neg c_5] | rw [if_pos (Classical.not_not.mp c_5)]) dX6_unset_37 (by omega) (by omega)
  · skip
    refine z_iconst F dX6_unset_8 ?_
    exact z_zret F hr hlocks hZ (by first | exact bI_1 ⟨c_5, c_20⟩ | exact bI_0 (fun q => c_20 q.2) | exact bI_0 (fun q => c_5 q.1)) (by omega) (by unfold cUns; first | rw [if_neg c_5] | rw [if_pos (Classical.not_not.mp c_5)]) dX6_unset_9 (by omega) (by omega)

theorem mX6_timerBits_32 : Cond.fieldLink RX6 32 "LockedChain$Seat" "timers" "[I" ∈ wsX6_timerBits := by decide +kernel
set_option maxHeartbeats 4000000 in
set_option maxRecDepth 100000 in
theorem k_X6_timerBits (l : Launch) (w : zW) (dom : Nat → Prop) (A : Nat → Prop) (hDA : ∀ i, dom i → A (w.2.1 + i)) (sz : Nat) (G : zM) (hd : ∀ i, i < 64 → dom i) (j : Nat) (hj : j < 7) : Met l yX6_timerBits wsX6_timerBits { frames := 1, cells := 0, slots := 0, locals := 21 } (zPre w dom sz G [.ref (w.2.1 + (8 + 8 * j))]) (zQi w dom sz (msk (tmP G j) 3) (fun C => C = G) A) (0) (0) A := by
  refine Met.ofW (cc := cX6_timerBits) (maxL := 3) (ret := (some .int)) (by decide) rfl ?_
  intro p e s m args below meth c s₁ B hml hv
  obtain ⟨rfl, hsz, hP, hK⟩ := hv
  have F : CallFix p m c cX6_timerBits 3 s _ wsX6_timerBits RX6 := ⟨B.exec, B.bytes, hml, findClass_of_methodNamed B.named, atoms_spec (ws := wsX6_timerBits) B.pre⟩
  have hr := B.returns
  have hlocks := B.notSynchronized
  have hZ : Zs w dom A s.heap sz G s.heap [] := ⟨hsz, hP, va_S.rf⟩
  have hl := lv_entry ([.ref (w.2.1 + (8 + 8 * j))]) (n := 3) (Nat.le_of_ble_eq_true rfl)
  rw [lg_entry_eq]
  generalize (lg_sl ([.ref (w.2.1 + (8 + 8 * j))]) ++ List.replicate (3 - (lg_sl ([.ref (w.2.1 + (8 + 8 * j))])).length) Slot.unset).toArray = ls at hl ⊢
  have hl : lv_has ls 3 [(0, .ref (w.2.1 + (8 + 8 * j)))] := hl
  have hin6 : ∀ v ∈ u_ws RX6 TX6 15, v ∈ wsX6_timerBits := by decide +kernel
  refine z_iconst F dX6_timerBits_0 ?_
  refine z_istore_n (lv' := [(1, .int (zI (0))), (0, .ref (w.2.1 + (8 + 8 * j)))]) F dX6_timerBits_1 rfl hl (by decide) rfl (fun ls hl => ?_)
  refine z_iconst F dX6_timerBits_2 ?_
  refine z_istore_n (lv' := [(2, .int (zI (0))), (1, .int (zI (0))), (0, .ref (w.2.1 + (8 + 8 * j)))]) F dX6_timerBits_3 rfl hl (by decide) rfl (fun ls hl => ?_)
  have L_4 : ∀ (nf : Nat) (i : Nat) (b : Int), (4 ≤ i + nf) → (i ≤ 3) → (b = msk (tmP G j) i) →  ∀ (H : Heap) (locs : List Loc) (ls : Array Slot), Zs w dom A s.heap sz G H locs → lv_has ls 3 [(0, .ref (w.2.1 + (8 + 8 * j))), (1, .int (zI (b))), (2, .int (zI ((i : Int))))] → W p l e (headSpec wsX6_timerBits { frames := 1, cells := 0, slots := 0, locals := 21 }).room s m ([.ref (w.2.1 + (8 + 8 * j))] : List Value).toArray below meth c H locs (0) (0) (MQ below (zQi w dom sz (msk (tmP G j) 3) (fun C => C = G) A) ([.ref (w.2.1 + (8 + 8 * j))] : List Value).toArray s (0) (0) A) (F0 m 4 ls []) := by
    intro nf
    induction nf with
    | zero => intro i  b  h4_0 h4_1 h4_2; exact absurd h4_0 (by omega)
    | succ nf ih_4 =>
      intro i  b  h4_0 h4_1 h4_2 H locs ls hZ hl
      subst h4_2
      refine z_iload_n F dX6_timerBits_4 rfl (lv_at hl 2 rfl) ?_
      refine z_aload_n F dX6_timerBits_5 rfl (lv_at hl 0 rfl) ?_
      refine z_get F hK hZ (8 + 8 * j) (hd _ (by omega)) (shp_seat j hj) (by decide) rfl hin6 14 (by decide) mX6_timerBits_32 rfl rfl dX6_timerBits_6 ?_
      refine z_alen F hK hZ (8 + 8 * j + 7) (hd _ (by omega)) (by decide) (shp_tims j hj) dX6_timerBits_9 ?_
      refine z_icmp_ge (tgt := 33) F (by omega) (by omega) dX6_timerBits_10 (by decide) (fun c_10 => ?_) (fun c_10 => ?_)
      · skip
        refine z_iload_n F dX6_timerBits_33 rfl (lv_at hl 1 rfl) ?_
        exact z_iret F hr hlocks hZ (by rw [show i = 3 by omega]) rfl dX6_timerBits_34 (by omega) (by omega)
      · skip
        refine z_aload_n F dX6_timerBits_13 rfl (lv_at hl 0 rfl) ?_
        refine z_iload_n F dX6_timerBits_14 rfl (lv_at hl 2 rfl) ?_
        refine z_bxi hZ (va_runV (As := [.int (zI ((i : Int)))]) (rest := []) F (k_X6_isSet l w dom A hDA sz G hd j hj ((i : Int)) (by omega)) (cwV 1 F.2.2.2.2 gX6_timerBits_X6_isSet rfl rfl rfl (by decide +kernel) ⟨Nat.le_of_ble_eq_true rfl, Nat.le_of_ble_eq_true rfl⟩) (z_preV hK hZ (8 + 8 * j) (hd _ (by omega)) (shp_seat j hj) (by decide) rfl _) rfl rfl hl.1 rfl (lv_room (Nat.le_of_ble_eq_true rfl)) dX6_timerBits_15 ⟨Nat.le_of_ble_eq_true rfl, Nat.le_of_ble_eq_true rfl⟩) (fun H locs hZ => ?_)
        refine z_ifB_eq (tgt := 27) F dX6_timerBits_18 (by decide) (fun c_18 => ?_) (fun c_18 => ?_)
        · skip
          refine z_iinc (k := 2) (z := (i : Int)) (lv' := [(2, .int (zI ((i : Int) + 1))), (0, .ref (w.2.1 + (8 + 8 * j))), (1, .int (zI (msk (tmP G j) i)))]) F dX6_timerBits_27 hl rfl (by decide) rfl (fun ls hl => ?_)
          refine lv_goto (tgt := 4) F.1 F.2.1 dX6_timerBits_30 (by decide) ?_
          exact ih_4 (i + 1) (msk (tmP G j) i) (by omega) (by omega) (by first | exact tb_t _ (by omega) (by unfold tmP; rw [decide_eq_true_eq]; exact c_18) | exact tb_f _ (by unfold tmP; rw [decide_eq_true_eq]; exact c_18)) _ _ _ hZ (lv_sub hl [1, 2, 0] rfl)
        · skip
          refine z_iload_n F dX6_timerBits_21 rfl (lv_at hl 1 rfl) ?_
          refine z_iconst F dX6_timerBits_22 ?_
          refine z_iload_n F dX6_timerBits_23 rfl (lv_at hl 2 rfl) ?_
          refine z_ishl F dX6_timerBits_24 ?_
          refine z_ior F dX6_timerBits_25 ?_
          refine z_istore_n (lv' := [(1, .int (zI (bOr (msk (tmP G j) i) (bShl 1 ((i : Int)))))), (0, .ref (w.2.1 + (8 + 8 * j))), (2, .int (zI ((i : Int))))]) F dX6_timerBits_26 rfl hl (by decide) rfl (fun ls hl => ?_)
          refine z_iinc (k := 2) (z := (i : Int)) (lv' := [(2, .int (zI ((i : Int) + 1))), (1, .int (zI (bOr (msk (tmP G j) i) (bShl 1 ((i : Int)))))), (0, .ref (w.2.1 + (8 + 8 * j)))]) F dX6_timerBits_27 hl rfl (by decide) rfl (fun ls hl => ?_)
          refine lv_goto (tgt := 4) F.1 F.2.1 dX6_timerBits_30 (by decide) ?_
          exact ih_4 (i + 1) (bOr (msk (tmP G j) i) (bShl 1 ((i : Int)))) (by omega) (by omega) (by first | exact tb_t _ (by omega) (by unfold tmP; rw [decide_eq_true_eq]; exact c_18) | exact tb_f _ (by unfold tmP; rw [decide_eq_true_eq]; exact c_18)) _ _ _ hZ (lv_sub hl [2, 1, 0] rfl)
  exact L_4 4 0 0 (by omega) (by omega) rfl _ _ _ hZ (lv_sub hl [2, 1, 0] rfl)

theorem mX6_standing_43 : Cond.fieldLink RX6 43 "LockedChain$Seat" "isFalse" "Z" ∈ wsX6_standing := by decide +kernel
theorem mX6_standing_57 : Cond.fieldLink RX6 57 "LockedChain$Seat" "isStale" "Z" ∈ wsX6_standing := by decide +kernel
set_option maxHeartbeats 4000000 in
set_option maxRecDepth 100000 in
theorem k_X6_standing (l : Launch) (w : zW) (dom : Nat → Prop) (A : Nat → Prop) (hDA : ∀ i, dom i → A (w.2.1 + i)) (sz : Nat) (G : zM) (hd : ∀ i, i < 64 → dom i) (j : Nat) (hj : j < 7) : Met l yX6_standing wsX6_standing { frames := 1, cells := 0, slots := 0, locals := 20 } (zPre w dom sz G [.ref (w.2.1 + (8 + 8 * j))]) (zQi w dom sz ((if G (8 + 8 * j) 1 ≠ 0 then 1 else if 6 ≤ G (8 + 8 * j) 2 then 2 else if G (8 + 8 * j) 5 ≠ 0 then 3 else 0)) (fun C => C = G) A) (0) (0) A := by
  refine Met.ofW (cc := cX6_standing) (maxL := 1) (ret := (some .int)) (by decide) rfl ?_
  intro p e s m args below meth c s₁ B hml hv
  obtain ⟨rfl, hsz, hP, hK⟩ := hv
  have F : CallFix p m c cX6_standing 1 s _ wsX6_standing RX6 := ⟨B.exec, B.bytes, hml, findClass_of_methodNamed B.named, atoms_spec (ws := wsX6_standing) B.pre⟩
  have hr := B.returns
  have hlocks := B.notSynchronized
  have hZ : Zs w dom A s.heap sz G s.heap [] := ⟨hsz, hP, va_S.rf⟩
  have hl := lv_entry ([.ref (w.2.1 + (8 + 8 * j))]) (n := 1) (Nat.le_of_ble_eq_true rfl)
  rw [lg_entry_eq]
  generalize (lg_sl ([.ref (w.2.1 + (8 + 8 * j))]) ++ List.replicate (1 - (lg_sl ([.ref (w.2.1 + (8 + 8 * j))])).length) Slot.unset).toArray = ls at hl ⊢
  have hl : lv_has ls 1 [(0, .ref (w.2.1 + (8 + 8 * j)))] := hl
  have hin6 : ∀ v ∈ u_ws RX6 TX6 15, v ∈ wsX6_standing := by decide +kernel
  refine z_aload_n F dX6_standing_0 rfl (lv_at hl 0 rfl) ?_
  refine z_get F hK hZ (8 + 8 * j) (hd _ (by omega)) (shp_seat j hj) (by decide) rfl hin6 1 (by decide) mX6_standing_43 rfl rfl dX6_standing_1 ?_
  have r_1 := hZ.2.1.1 (8 + 8 * j) (1)
  refine z_if_eq (tgt := 9) F (by omega) dX6_standing_4 (by decide) (fun c_4 => ?_) (fun c_4 => ?_)
  · skip
    refine z_aload_n F dX6_standing_9 rfl (lv_at hl 0 rfl) ?_
    refine z_bxi hZ (va_runV (As := []) (rest := []) F (k_X6_isDone l w dom A hDA sz G hd j hj ) (cwV 0 F.2.2.2.2 gX6_standing_X6_isDone rfl rfl rfl (by decide +kernel) ⟨Nat.le_of_ble_eq_true rfl, Nat.le_of_ble_eq_true rfl⟩) (z_preV hK hZ (8 + 8 * j) (hd _ (by omega)) (shp_seat j hj) (by decide) rfl _) rfl rfl hl.1 rfl (lv_room (Nat.le_of_ble_eq_true rfl)) dX6_standing_10 ⟨Nat.le_of_ble_eq_true rfl, Nat.le_of_ble_eq_true rfl⟩) (fun H locs hZ => ?_)
    refine z_ifB_eq (tgt := 18) F dX6_standing_13 (by decide) (fun c_13 => ?_) (fun c_13 => ?_)
    · skip
      refine z_aload_n F dX6_standing_18 rfl (lv_at hl 0 rfl) ?_
      refine z_get F hK hZ (8 + 8 * j) (hd _ (by omega)) (shp_seat j hj) (by decide) rfl hin6 5 (by decide) mX6_standing_57 rfl rfl dX6_standing_19 ?_
      have r_2 := hZ.2.1.1 (8 + 8 * j) (5)
      refine z_if_eq (tgt := 29) F (by omega) dX6_standing_22 (by decide) (fun c_22 => ?_) (fun c_22 => ?_)
      · skip
        refine z_iconst F dX6_standing_29 ?_
        exact z_iret F hr hlocks hZ (by first | (rw [if_pos c_4]; done) | (rw [if_neg (by omega), if_pos c_13]; done) | (rw [if_neg (by omega), if_neg c_13, if_pos c_22]; done) | (rw [if_neg (by omega), if_neg c_13, if_neg (by omega)]; done) | (split <;> (try split) <;> (try split) <;> first | rfl | (exfalso; omega))) rfl dX6_standing_30 (by omega) (by omega)
      · skip
        refine z_iconst F dX6_standing_25 ?_
        refine lv_goto (tgt := 30) F.1 F.2.1 dX6_standing_26 (by decide) ?_
        exact z_iret F hr hlocks hZ (by first | (rw [if_pos c_4]; done) | (rw [if_neg (by omega), if_pos c_13]; done) | (rw [if_neg (by omega), if_neg c_13, if_pos c_22]; done) | (rw [if_neg (by omega), if_neg c_13, if_neg (by omega)]; done) | (split <;> (try split) <;> (try split) <;> first | rfl | (exfalso; omega))) rfl dX6_standing_30 (by omega) (by omega)
    · skip
      refine z_iconst F dX6_standing_16 ?_
      exact z_iret F hr hlocks hZ (by first | (rw [if_pos c_4]; done) | (rw [if_neg (by omega), if_pos c_13]; done) | (rw [if_neg (by omega), if_neg c_13, if_pos c_22]; done) | (rw [if_neg (by omega), if_neg c_13, if_neg (by omega)]; done) | (split <;> (try split) <;> (try split) <;> first | rfl | (exfalso; omega))) rfl dX6_standing_17 (by omega) (by omega)
  · skip
    refine z_iconst F dX6_standing_7 ?_
    exact z_iret F hr hlocks hZ (by first | (rw [if_pos c_4]; done) | (rw [if_neg (by omega), if_pos c_13]; done) | (rw [if_neg (by omega), if_neg c_13, if_pos c_22]; done) | (rw [if_neg (by omega), if_neg c_13, if_neg (by omega)]; done) | (split <;> (try split) <;> (try split) <;> first | rfl | (exfalso; omega))) rfl dX6_standing_8 (by omega) (by omega)
